import java.util.Arrays;

/**
 * A project planner: tasks, the links between them, their calendars and crews are told; early, late and
 * levelled plans, what holds each task back, kept plans and what would be are asked.
 */
public final class SlipwayPlan {
    private static final int CALENDARS = 4;
    private static final int CREWS = 4;
    private static final int RULES = 4;
    private static final int KINDS = 3;
    private static final int MOST_TASKS = 24;
    private static final int MOST_LINKS = 40;
    private static final int MOST_FREE = 12;
    private static final int MOST_LENGTH = 20;
    private static final int MOST_LAG = 20;
    private static final int MOST_RANK = 9;
    private static final int MOST_HANDS = 9;
    private static final int MOST_PRICE = 99;
    private static final int ALL_WEEKDAYS = 127;

    private static final int BEHIND = 0;
    private static final int BESIDE = 1;

    private static final int LEAST_LATE_BEGIN = 0;
    private static final int LEAST_ROOM = 1;
    private static final int GREATEST_RANK = 2;

    private static final int HELD_BY_NOTHING = 0;
    private static final int HELD_BY_LINK = 1;
    private static final int HELD_BY_CREW = 2;

    private static final int TOLD_DAYS = 1000;
    private static final int ASKED_DAYS = 10000;

    // No plan reaches further: whatever is told lies ahead of day 1000, and each of the 24 tasks ends at most
    // 160 days behind all that was there before it: a lag of 20, 6 days up to its weekday, 20 days a week apart.
    private static final int PLAN_DAYS = 5000;

    private final Project project;
    private final Network network;
    private final Levelling levelling;
    private final Load wantedLoad;
    private final Network trialNetwork;
    private final Levelling trialLevelling;
    private final Kept kept;

    // Whether something was told since the plans were reckoned.
    private boolean stale;

    /** Creates a planner without tasks. */
    public SlipwayPlan() {
        project = new Project();
        network = new Network(project);
        levelling = new Levelling(project);
        wantedLoad = new Load();
        trialNetwork = new Network(project);
        trialLevelling = new Levelling(project);
        kept = new Kept(project);
        stale = true;
    }

    // ---- what there is

    public int setWeek(int calendar, int weekdays) throws IndexOutOfBoundsException, IllegalArgumentException {
        checkCalendar(calendar);
        checkArgument(weekdays >= 1 && weekdays <= ALL_WEEKDAYS);
        Calendar changed = project.calendars[calendar];
        int before = changed.weekdays;
        changed.weekdays = weekdays;
        stale = true;
        return before;
    }

    public boolean setFree(int calendar, int day, boolean isFree)
            throws IndexOutOfBoundsException, IllegalArgumentException, IllegalStateException {
        checkCalendar(calendar);
        checkArgument(isWithin(day, TOLD_DAYS - 1));
        Calendar changed = project.calendars[calendar];
        boolean before = changed.free[day];
        checkState(before || !isFree || changed.freeCount < MOST_FREE);
        changed.makeFree(day, isFree);
        stale = true;
        return before;
    }

    public int setCrew(int crew, int size, int price) throws IndexOutOfBoundsException, IllegalArgumentException {
        checkCrew(crew);
        checkArgument(isWithin(size, MOST_HANDS) && isWithin(price, MOST_PRICE));
        Crew changed = project.crews[crew];
        int before = changed.size;
        changed.size = size;
        changed.price = price;
        stale = true;
        return before;
    }

    public int addTask(int length, int calendar)
            throws IndexOutOfBoundsException, IllegalArgumentException, IllegalStateException {
        checkCalendar(calendar);
        checkArgument(isWithin(length, MOST_LENGTH));
        checkState(project.taskCount < MOST_TASKS);
        stale = true;
        return project.appendTask(length, calendar);
    }

    public int setLength(int task, int length) throws IndexOutOfBoundsException, IllegalArgumentException {
        checkTask(task);
        checkArgument(isWithin(length, MOST_LENGTH));
        Task changed = project.tasks[task];
        int before = changed.length;
        changed.length = length;
        stale = true;
        return before;
    }

    public int setTerms(int task, int rank, int first) throws IndexOutOfBoundsException, IllegalArgumentException {
        checkTask(task);
        checkArgument(isWithin(rank, MOST_RANK) && isWithin(first, TOLD_DAYS - 1));
        Task changed = project.tasks[task];
        int before = changed.first;
        changed.rank = rank;
        changed.first = first;
        stale = true;
        return before;
    }

    public int setNeed(int task, int crew, int needs) throws IndexOutOfBoundsException, IllegalArgumentException {
        checkTask(task);
        checkCrew(crew);
        checkArgument(isWithin(needs, MOST_HANDS));
        Task changed = project.tasks[task];
        int before = changed.needs[crew];
        changed.needs[crew] = needs;
        stale = true;
        return before;
    }

    public int link(int from, int to, int kind, int lag)
            throws IndexOutOfBoundsException, IllegalArgumentException, IllegalStateException {
        checkTask(from);
        checkTask(to);
        checkArgument(isWithin(kind, KINDS - 1) && isWithin(lag, MOST_LAG));
        checkState(project.linkCount < MOST_LINKS && !project.reaches(to, from));
        stale = true;
        return project.appendLink(from, to, kind, lag);
    }

    public int drop(int link) throws IndexOutOfBoundsException {
        checkLink(link);
        project.takeOut(link);
        stale = true;
        return project.linkCount;
    }

    public boolean finish(int task, int begin, int end) throws IndexOutOfBoundsException, IllegalArgumentException {
        checkTask(task);
        checkArgument(isWithin(begin, TOLD_DAYS - 1) && isWithin(end, TOLD_DAYS - 1) && begin <= end);
        Task changed = project.tasks[task];
        boolean before = changed.done;
        changed.done = true;
        changed.doneBegin = begin;
        changed.doneEnd = end;
        stale = true;
        return before;
    }

    public boolean reopen(int task) throws IndexOutOfBoundsException {
        checkTask(task);
        Task changed = project.tasks[task];
        boolean before = changed.done;
        changed.done = false;
        stale = true;
        return before;
    }

    public int setRule(int rule) throws IllegalArgumentException {
        checkArgument(isWithin(rule, RULES - 1));
        int before = project.rule;
        project.rule = rule;
        stale = true;
        return before;
    }

    public int tasks() {
        return project.taskCount;
    }

    public int links() {
        return project.linkCount;
    }

    public boolean works(int calendar, int day) throws IndexOutOfBoundsException, IllegalArgumentException {
        checkCalendar(calendar);
        checkAskedDay(day);
        return project.calendars[calendar].worksOn(day);
    }

    // ---- early and late

    public int earlyBegin(int task) throws IndexOutOfBoundsException {
        checkTask(task);
        refresh();
        return network.early.begins[task];
    }

    public int earlyEnd(int task) throws IndexOutOfBoundsException {
        checkTask(task);
        refresh();
        return network.early.ends[task];
    }

    public int lateBegin(int task) throws IndexOutOfBoundsException {
        checkTask(task);
        refresh();
        return network.late.begins[task];
    }

    public int lateEnd(int task) throws IndexOutOfBoundsException {
        checkTask(task);
        refresh();
        return network.late.ends[task];
    }

    public int room(int task) throws IndexOutOfBoundsException {
        checkTask(task);
        refresh();
        return network.rooms[task];
    }

    public int last() {
        refresh();
        return network.lastDay;
    }

    public int tight() {
        refresh();
        return network.countTight();
    }

    public int wanted(int crew, int day) throws IndexOutOfBoundsException, IllegalArgumentException {
        checkCrew(crew);
        checkAskedDay(day);
        refresh();
        return wantedLoad.on(crew, day);
    }

    public int overloaded(int crew) throws IndexOutOfBoundsException {
        checkCrew(crew);
        refresh();
        return wantedLoad.daysAbove(crew, project.crews[crew].size);
    }

    // ---- levelled

    public int begin(int task) throws IndexOutOfBoundsException {
        checkTask(task);
        refresh();
        return levelling.plan.begins[task];
    }

    public int end(int task) throws IndexOutOfBoundsException {
        checkTask(task);
        refresh();
        return levelling.plan.ends[task];
    }

    public int levelledLast() {
        refresh();
        return levelling.lastDay;
    }

    public int stuck() {
        refresh();
        return project.taskCount - levelling.count;
    }

    public int orderAt(int place) throws IndexOutOfBoundsException {
        refresh();
        checkIndex(place, levelling.count);
        return levelling.order[place];
    }

    public int used(int crew, int day) throws IndexOutOfBoundsException, IllegalArgumentException {
        checkCrew(crew);
        checkAskedDay(day);
        refresh();
        return levelling.load.on(crew, day);
    }

    public int peak(int crew) throws IndexOutOfBoundsException {
        checkCrew(crew);
        refresh();
        return levelling.load.greatest(crew);
    }

    public int holds(int task) throws IndexOutOfBoundsException {
        checkTask(task);
        refresh();
        return levelling.holdOf(task);
    }

    public int heldBy(int task) throws IndexOutOfBoundsException {
        checkTask(task);
        refresh();
        return levelling.linkThatHolds(task);
    }

    public int idle(int crew) throws IndexOutOfBoundsException {
        checkCrew(crew);
        refresh();
        return levelling.load.leftOver(crew, project.crews[crew].size, levelling.lastDay);
    }

    // ---- kept, and done

    public int keep() {
        refresh();
        kept.take(levelling);
        return levelling.count;
    }

    public int behind(int task) throws IndexOutOfBoundsException {
        checkTask(task);
        refresh();
        return kept.delayOf(task, levelling);
    }

    public int planned(int day) throws IllegalArgumentException {
        checkAskedDay(day);
        return kept.plannedUpTo(day);
    }

    public int earned() {
        return kept.earnedNow();
    }

    public int worth() {
        int sum = 0;
        for (int task = 0; task < project.taskCount; task++) {
            sum += project.worthOf(task);
        }
        return sum;
    }

    public double pace(int day) throws IllegalArgumentException {
        checkAskedDay(day);
        int due = kept.plannedUpTo(day);
        return due == 0 ? 0.0 : (double) kept.earnedNow() / due;
    }

    // ---- what would be (nothing is changed)

    public int lastWith(int task, int length) throws IndexOutOfBoundsException, IllegalArgumentException {
        checkTask(task);
        checkArgument(isWithin(length, MOST_LENGTH));
        return lastIfLengthWere(task, length);
    }

    public int levelledWith(int crew, int size) throws IndexOutOfBoundsException, IllegalArgumentException {
        checkCrew(crew);
        checkArgument(isWithin(size, MOST_HANDS));
        refresh();
        Crew changed = project.crews[crew];
        int before = changed.size;
        changed.size = size;
        trialLevelling.reckon(network, project.rule);
        changed.size = before;
        return trialLevelling.lastDay;
    }

    public int levelledWithout(int link) throws IndexOutOfBoundsException {
        checkLink(link);
        project.takeOut(link);
        trialNetwork.reckonEarly();
        trialNetwork.reckonLate();
        trialLevelling.reckon(trialNetwork, project.rule);
        project.putBack(link);
        return trialLevelling.lastDay;
    }

    public int bestRule() {
        refresh();
        int best = 0;
        int least = PLAN_DAYS;
        for (int rule = 0; rule < RULES; rule++) {
            trialLevelling.reckon(network, rule);
            if (trialLevelling.lastDay < least) {
                least = trialLevelling.lastDay;
                best = rule;
            }
        }
        return best;
    }

    public int couldGrow(int task) throws IndexOutOfBoundsException {
        checkTask(task);
        refresh();
        int length = project.tasks[task].length;
        int grown = 0;
        while (length + grown < MOST_LENGTH && lastIfLengthWere(task, length + grown + 1) == network.lastDay) {
            grown++;
        }
        return grown;
    }

    public long digest() {
        refresh();
        long d = 2633;
        d = d * 31 + project.taskCount;
        d = d * 31 + project.linkCount;
        d = d * 31 + network.lastDay;
        d = d * 31 + network.countTight();
        d = d * 31 + levelling.lastDay;
        d = d * 31 + (project.taskCount - levelling.count);
        for (int task = 0; task < project.taskCount; task++) {
            d = d * 31 + network.early.begins[task];
            d = d * 31 + network.early.ends[task];
            d = d * 31 + network.late.begins[task];
            d = d * 31 + network.late.ends[task];
            d = d * 31 + network.rooms[task];
            d = d * 31 + levelling.plan.begins[task];
            d = d * 31 + levelling.plan.ends[task];
            d = d * 31 + levelling.holdOf(task);
            d = d * 31 + levelling.linkThatHolds(task);
            d = d * 31 + kept.delayOf(task, levelling);
        }
        for (int crew = 0; crew < CREWS; crew++) {
            int size = project.crews[crew].size;
            d = d * 31 + wantedLoad.daysAbove(crew, size);
            d = d * 31 + levelling.load.greatest(crew);
            d = d * 31 + levelling.load.leftOver(crew, size, levelling.lastDay);
        }
        for (int place = 0; place < levelling.count; place++) {
            d = d * 31 + levelling.order[place];
        }
        d = d * 31 + kept.earnedNow();
        d = d * 31 + worth();
        d = d * 31 + kept.plannedUpTo(levelling.lastDay);
        return d;
    }

    // ---- what the calls share

    private static boolean isWithin(int value, int most) {
        return value >= 0 && value <= most;
    }

    private static void checkIndex(int index, int count) {
        if (index < 0 || index >= count) {
            throw new IndexOutOfBoundsException("there is no such one");
        }
    }

    private static void checkArgument(boolean holds) {
        if (!holds) {
            throw new IllegalArgumentException("a number is outside its bounds");
        }
    }

    private static void checkState(boolean holds) {
        if (!holds) {
            throw new IllegalStateException("this can not be added");
        }
    }

    private static void checkCalendar(int calendar) {
        checkIndex(calendar, CALENDARS);
    }

    private static void checkCrew(int crew) {
        checkIndex(crew, CREWS);
    }

    private static void checkAskedDay(int day) {
        checkArgument(isWithin(day, ASKED_DAYS - 1));
    }

    private void checkTask(int task) {
        checkIndex(task, project.taskCount);
    }

    private void checkLink(int link) {
        checkIndex(link, project.linkCount);
    }

    private void refresh() {
        if (!stale) {
            return;
        }
        network.reckonEarly();
        network.reckonLate();
        wantedLoad.clear();
        for (int task = 0; task < project.taskCount; task++) {
            wantedLoad.add(project.tasks[task], project.calendarOf(task), network.early.begins[task],
                    network.early.ends[task]);
        }
        levelling.reckon(network, project.rule);
        stale = false;
    }

    private int lastIfLengthWere(int task, int length) {
        Task changed = project.tasks[task];
        int before = changed.length;
        changed.length = length;
        trialNetwork.reckonEarly();
        changed.length = before;
        return trialNetwork.lastDay;
    }

    /** On which weekdays one works, but for the free days. */
    private static final class Calendar {
        int weekdays = 31;
        int freeCount;
        final boolean[] free = new boolean[TOLD_DAYS];

        void makeFree(int day, boolean isFree) {
            if (free[day] != isFree) {
                free[day] = isFree;
                freeCount += isFree ? 1 : -1;
            }
        }

        void copyFrom(Calendar other) {
            weekdays = other.weekdays;
            freeCount = other.freeCount;
            System.arraycopy(other.free, 0, free, 0, TOLD_DAYS);
        }

        boolean worksOn(int day) {
            if (day < 0 || ((weekdays >> (day % 7)) & 1) == 0) {
                return false;
            }
            return day >= TOLD_DAYS || !free[day];
        }

        int firstFrom(int day) {
            int found = Math.max(day, 0);
            while (found < PLAN_DAYS && !worksOn(found)) {
                found++;
            }
            return found;
        }

        /** The one that is the count-th of the days worked on, from the day itself back; -1 without so many. */
        int countBack(int day, int count) {
            int left = count;
            for (int at = day; at >= 0; at--) {
                if (worksOn(at)) {
                    left--;
                    if (left <= 0) {
                        return at;
                    }
                }
            }
            return -1;
        }

        int countWithin(int from, int to) {
            int count = 0;
            for (int day = from; day < to; day++) {
                if (worksOn(day)) {
                    count++;
                }
            }
            return count;
        }

        int endOf(int begin, int length) {
            int end = begin;
            int left = length;
            while (left > 0 && end < PLAN_DAYS) {
                if (worksOn(end)) {
                    left--;
                }
                end++;
            }
            return end;
        }

        /** The first day to begin on that is not ahead of from, so that the end is not ahead of endFrom. */
        int firstBegin(int length, int from, int endFrom) {
            if (length == 0) {
                return Math.max(from, endFrom);
            }
            return Math.max(firstFrom(from), countBack(firstFrom(endFrom - 1), length));
        }

        /** The latest day to begin on that is not behind to, so that the end is not behind endTo; -1 without one. */
        int latestBegin(int length, int to, int endTo) {
            if (length == 0) {
                return Math.min(to, endTo);
            }
            return Math.min(countBack(to, 1), countBack(endTo - 1, length));
        }
    }

    private static final class Crew {
        int size = MOST_HANDS;
        int price;
    }

    private static final class Task {
        int length;
        int calendar;
        int rank;
        int first;
        boolean done;
        int doneBegin;
        int doneEnd;
        final int[] needs = new int[CREWS];
    }

    private static final class Link {
        int from;
        int to;
        int kind;
        int lag;
    }

    /** The begins and ends of all tasks. */
    private static final class Plan {
        final int[] begins = new int[MOST_TASKS];
        final int[] ends = new int[MOST_TASKS];

        void set(int task, int begin, int end) {
            begins[task] = begin;
            ends[task] = end;
        }

        /** The day ahead of which the link lets nothing begin. */
        int beginAsked(Link link) {
            if (link.kind == BEHIND) {
                return ends[link.from] + link.lag;
            }
            return link.kind == BESIDE ? begins[link.from] + link.lag : 0;
        }

        /** The day ahead of which the link lets nothing end. */
        int endAsked(Link link) {
            return link.kind == BEHIND || link.kind == BESIDE ? 0 : ends[link.from] + link.lag;
        }
    }

    /** All that was told. */
    private static final class Project {
        final Calendar[] calendars = new Calendar[CALENDARS];
        final Crew[] crews = new Crew[CREWS];
        final Task[] tasks = new Task[MOST_TASKS];
        final Link[] links = new Link[MOST_LINKS];
        int taskCount;
        int linkCount;
        int rule;

        // The tasks, so that each link goes to a later place.
        final int[] sorted = new int[MOST_TASKS];
        final boolean[] marks = new boolean[MOST_TASKS];

        Project() {
            for (int calendar = 0; calendar < CALENDARS; calendar++) {
                calendars[calendar] = new Calendar();
            }
            for (int crew = 0; crew < CREWS; crew++) {
                crews[crew] = new Crew();
            }
            for (int task = 0; task < MOST_TASKS; task++) {
                tasks[task] = new Task();
            }
            for (int link = 0; link < MOST_LINKS; link++) {
                links[link] = new Link();
            }
        }

        Calendar calendarOf(int task) {
            return calendars[tasks[task].calendar];
        }

        int worthOf(int task) {
            int perDay = 0;
            for (int crew = 0; crew < CREWS; crew++) {
                perDay += tasks[task].needs[crew] * crews[crew].price;
            }
            return tasks[task].length * perDay;
        }

        int appendTask(int length, int calendar) {
            int task = taskCount;
            tasks[task].length = length;
            tasks[task].calendar = calendar;
            sorted[task] = task;
            taskCount++;
            return task;
        }

        int appendLink(int from, int to, int kind, int lag) {
            Link added = links[linkCount];
            added.from = from;
            added.to = to;
            added.kind = kind;
            added.lag = lag;
            linkCount++;
            sortTasks();
            return linkCount - 1;
        }

        /** Takes a link out; its object goes behind the last one, so that putBack can undo it. */
        void takeOut(int link) {
            Link taken = links[link];
            linkCount--;
            for (int at = link; at < linkCount; at++) {
                links[at] = links[at + 1];
            }
            links[linkCount] = taken;
        }

        /** Undoes the takeOut just ahead of it. */
        void putBack(int link) {
            Link taken = links[linkCount];
            for (int at = linkCount; at > link; at--) {
                links[at] = links[at - 1];
            }
            links[link] = taken;
            linkCount++;
        }

        /** Whether one comes along links from a task to a goal; also if they are the same. */
        boolean reaches(int task, int goal) {
            clearMarks();
            marks[task] = true;
            for (int place = 0; place < taskCount; place++) {
                if (marks[sorted[place]]) {
                    markBehind(sorted[place]);
                }
            }
            return marks[goal];
        }

        void markBehind(int task) {
            for (int link = 0; link < linkCount; link++) {
                if (links[link].from == task) {
                    marks[links[link].to] = true;
                }
            }
        }

        void sortTasks() {
            clearMarks();
            for (int place = 0; place < taskCount; place++) {
                int task = firstOpen();
                if (task < 0) {
                    return;
                }
                marks[task] = true;
                sorted[place] = task;
            }
        }

        /** The first task without a mark, to which links go only from marked ones; -1 without one. */
        int firstOpen() {
            for (int task = 0; task < taskCount; task++) {
                if (!marks[task] && isOpen(task, marks)) {
                    return task;
                }
            }
            return -1;
        }

        void clearMarks() {
            for (int task = 0; task < MOST_TASKS; task++) {
                marks[task] = false;
            }
        }

        /** Whether no link goes to the task from one that is not in. */
        boolean isOpen(int task, boolean[] in) {
            for (int link = 0; link < linkCount; link++) {
                if (links[link].to == task && !in[links[link].from]) {
                    return false;
                }
            }
            return true;
        }

        /** The first day on which a task can begin by its first day and the links, but for crews. */
        int firstDay(int task, Plan plan) {
            int from = tasks[task].first;
            int endFrom = 0;
            for (int link = 0; link < linkCount; link++) {
                if (links[link].to == task) {
                    from = Math.max(from, plan.beginAsked(links[link]));
                    endFrom = Math.max(endFrom, plan.endAsked(links[link]));
                }
            }
            return calendarOf(task).firstBegin(tasks[task].length, from, endFrom);
        }

        /** The first day on which the task a link goes to can begin by its first day and that link alone. */
        int firstDayBy(Link link, Plan plan) {
            Task task = tasks[link.to];
            int from = Math.max(task.first, plan.beginAsked(link));
            return calendarOf(link.to).firstBegin(task.length, from, plan.endAsked(link));
        }
    }

    /** How many of each crew are needed on each day. */
    private static final class Load {
        final int[][] hands = new int[CREWS][PLAN_DAYS];

        // From this day on nothing is needed.
        int upTo;

        void clear() {
            for (int crew = 0; crew < CREWS; crew++) {
                Arrays.fill(hands[crew], 0, upTo, 0);
            }
            upTo = 0;
        }

        void add(Task task, Calendar calendar, int begin, int end) {
            int stop = Math.min(end, PLAN_DAYS);
            for (int day = Math.max(begin, 0); day < stop; day++) {
                if (calendar.worksOn(day)) {
                    for (int crew = 0; crew < CREWS; crew++) {
                        hands[crew][day] += task.needs[crew];
                    }
                }
            }
            upTo = Math.max(upTo, stop);
        }

        int on(int crew, int day) {
            return isWithin(day, PLAN_DAYS - 1) ? hands[crew][day] : 0;
        }

        int daysAbove(int crew, int size) {
            int days = 0;
            for (int day = 0; day < upTo; day++) {
                if (hands[crew][day] > size) {
                    days++;
                }
            }
            return days;
        }

        int greatest(int crew) {
            int most = 0;
            for (int day = 0; day < upTo; day++) {
                most = Math.max(most, hands[crew][day]);
            }
            return most;
        }

        /** How many of the crew, as large as it is, are left on all days ahead of the last one. */
        int leftOver(int crew, int size, int last) {
            int sum = 0;
            for (int day = 0; day < last; day++) {
                sum += Math.max(0, size - on(crew, day));
            }
            return sum;
        }
    }

    /** The plans EARLY and LATE. */
    private static final class Network {
        final Project project;
        final Plan early = new Plan();
        final Plan late = new Plan();
        final int[] rooms = new int[MOST_TASKS];
        int lastDay;

        Network(Project project) {
            this.project = project;
        }

        void reckonEarly() {
            lastDay = 0;
            for (int place = 0; place < project.taskCount; place++) {
                int number = project.sorted[place];
                Task task = project.tasks[number];
                if (task.done) {
                    early.set(number, task.doneBegin, task.doneEnd);
                } else {
                    int begin = project.firstDay(number, early);
                    early.set(number, begin, project.calendarOf(number).endOf(begin, task.length));
                }
                lastDay = Math.max(lastDay, early.ends[number]);
            }
        }

        void reckonLate() {
            for (int place = project.taskCount - 1; place >= 0; place--) {
                int number = project.sorted[place];
                Task task = project.tasks[number];
                if (task.done) {
                    late.set(number, task.doneBegin, task.doneEnd);
                    rooms[number] = 0;
                } else {
                    int begin = latestDay(number);
                    late.set(number, begin, project.calendarOf(number).endOf(begin, task.length));
                    rooms[number] = roomUpTo(number, begin);
                }
            }
        }

        private int latestDay(int number) {
            int to = lastDay;
            int endTo = lastDay;
            for (int at = 0; at < project.linkCount; at++) {
                Link link = project.links[at];
                if (link.from != number || project.tasks[link.to].done) {
                    continue;
                }
                if (link.kind == BESIDE) {
                    to = Math.min(to, late.begins[link.to] - link.lag);
                } else {
                    int limit = link.kind == BEHIND ? late.begins[link.to] : late.ends[link.to];
                    endTo = Math.min(endTo, limit - link.lag);
                }
            }
            int latest = project.calendarOf(number).latestBegin(project.tasks[number].length, to, endTo);
            return Math.max(latest, early.begins[number]);
        }

        private int roomUpTo(int number, int lateBegin) {
            int earlyBegin = early.begins[number];
            if (project.tasks[number].length == 0) {
                return lateBegin - earlyBegin;
            }
            return project.calendarOf(number).countWithin(earlyBegin, lateBegin);
        }

        int countTight() {
            int count = 0;
            for (int task = 0; task < project.taskCount; task++) {
                if (rooms[task] == 0 && !project.tasks[task].done) {
                    count++;
                }
            }
            return count;
        }
    }

    /** The plan LEVELLED. */
    private static final class Levelling {
        final Project project;
        final Plan plan = new Plan();
        final Load load = new Load();
        final boolean[] in = new boolean[MOST_TASKS];
        final int[] order = new int[MOST_TASKS];
        int count;
        int lastDay;

        Levelling(Project project) {
            this.project = project;
        }

        void reckon(Network network, int rule) {
            clear();
            for (int number = 0; number < project.taskCount; number++) {
                Task task = project.tasks[number];
                if (task.done) {
                    putIn(number, task.doneBegin, task.doneEnd);
                }
            }
            for (int step = 0; step < project.taskCount; step++) {
                int next = choose(network, rule);
                if (next < 0) {
                    return;
                }
                int begin = firstWithCrews(next, project.firstDay(next, plan));
                putIn(next, begin, project.calendarOf(next).endOf(begin, project.tasks[next].length));
            }
        }

        private void clear() {
            load.clear();
            count = 0;
            lastDay = 0;
            for (int task = 0; task < MOST_TASKS; task++) {
                in[task] = false;
                plan.set(task, -1, -1);
            }
        }

        private void putIn(int number, int begin, int end) {
            plan.set(number, begin, end);
            load.add(project.tasks[number], project.calendarOf(number), begin, end);
            in[number] = true;
            order[count] = number;
            count++;
            lastDay = Math.max(lastDay, end);
        }

        /** The task to be put in next; -1 if none is left but stuck ones. */
        private int choose(Network network, int rule) {
            int best = -1;
            int least = 0;
            for (int task = 0; task < project.taskCount; task++) {
                if (in[task] || isTooLarge(task) || !project.isOpen(task, in)) {
                    continue;
                }
                int key = keyOf(task, network, rule);
                if (best < 0 || key < least) {
                    best = task;
                    least = key;
                }
            }
            return best;
        }

        /** What the rule goes by; the least one comes first. */
        private int keyOf(int task, Network network, int rule) {
            if (rule == LEAST_LATE_BEGIN) {
                return network.late.begins[task];
            }
            if (rule == LEAST_ROOM) {
                return network.rooms[task];
            }
            return rule == GREATEST_RANK ? -project.tasks[task].rank : -project.tasks[task].length;
        }

        private boolean isTooLarge(int number) {
            Task task = project.tasks[number];
            if (task.length == 0) {
                return false;
            }
            for (int crew = 0; crew < CREWS; crew++) {
                if (task.needs[crew] > project.crews[crew].size) {
                    return true;
                }
            }
            return false;
        }

        /** The first day from a day on to begin on, so that the crews suffice on each day worked on. */
        private int firstWithCrews(int number, int from) {
            Task task = project.tasks[number];
            Calendar calendar = project.calendarOf(number);
            int begin = from;
            int fitting = 0;
            for (int day = from; day < PLAN_DAYS && fitting < task.length; day++) {
                if (!calendar.worksOn(day)) {
                    continue;
                }
                if (!crewsSuffice(task, day)) {
                    fitting = 0;
                    continue;
                }
                if (fitting == 0) {
                    begin = day;
                }
                fitting++;
            }
            return begin;
        }

        private boolean crewsSuffice(Task task, int day) {
            for (int crew = 0; crew < CREWS; crew++) {
                int needs = task.needs[crew];
                if (needs > 0 && needs > project.crews[crew].size - load.on(crew, day)) {
                    return false;
                }
            }
            return true;
        }

        /** What holds a task; -1 if it is done or stuck. */
        int holdOf(int number) {
            Task task = project.tasks[number];
            if (task.done || !in[number]) {
                return -1;
            }
            int begin = plan.begins[number];
            if (begin > project.firstDay(number, plan)) {
                return HELD_BY_CREW;
            }
            boolean isLate = begin > project.calendarOf(number).firstBegin(task.length, task.first, 0);
            return isLate ? HELD_BY_LINK : HELD_BY_NOTHING;
        }

        /** The link that holds a task; -1 if none does. */
        int linkThatHolds(int number) {
            if (holdOf(number) != HELD_BY_LINK) {
                return -1;
            }
            for (int at = 0; at < project.linkCount; at++) {
                Link link = project.links[at];
                if (link.to == number && project.firstDayBy(link, plan) >= plan.begins[number]) {
                    return at;
                }
            }
            return -1;
        }
    }

    /** The plan that is kept. */
    private static final class Kept {
        final Project project;
        final Plan plan = new Plan();
        final boolean[] in = new boolean[MOST_TASKS];
        final int[] worths = new int[MOST_TASKS];

        // As they were when the plan was kept.
        final Calendar[] calendars = new Calendar[CALENDARS];

        Kept(Project project) {
            this.project = project;
            for (int calendar = 0; calendar < CALENDARS; calendar++) {
                calendars[calendar] = new Calendar();
            }
        }

        void take(Levelling levelling) {
            for (int task = 0; task < project.taskCount; task++) {
                in[task] = levelling.in[task];
                plan.set(task, levelling.plan.begins[task], levelling.plan.ends[task]);
                worths[task] = project.worthOf(task);
            }
            for (int calendar = 0; calendar < CALENDARS; calendar++) {
                calendars[calendar].copyFrom(project.calendars[calendar]);
            }
        }

        int delayOf(int task, Levelling levelling) {
            return in[task] && levelling.in[task] ? levelling.plan.ends[task] - plan.ends[task] : 0;
        }

        int plannedUpTo(int day) {
            int sum = 0;
            for (int task = 0; task < project.taskCount; task++) {
                if (in[task]) {
                    sum += partUpTo(task, day);
                }
            }
            return sum;
        }

        private int partUpTo(int task, int day) {
            Calendar calendar = calendars[project.tasks[task].calendar];
            int all = calendar.countWithin(plan.begins[task], plan.ends[task]);
            if (all == 0) {
                return 0;
            }
            int ahead = calendar.countWithin(plan.begins[task], Math.min(plan.ends[task], day));
            return worths[task] * ahead / all;
        }

        int earnedNow() {
            int sum = 0;
            for (int task = 0; task < project.taskCount; task++) {
                if (in[task] && project.tasks[task].done) {
                    sum += worths[task];
                }
            }
            return sum;
        }
    }
}
