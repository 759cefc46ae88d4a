import java.util.ArrayList;
import java.util.Arrays;
import java.util.List;
import java.util.TreeSet;

/**
 * The document's words in their slowest form: day by day, task by task, and what would be is asked of a copy.
 * Shares no code and no way of reckoning with SlipwayPlan.
 */
final class PlainPlan {
    private static final class Item {
        int length;
        int calendar;
        int rank;
        int first;
        boolean done;
        int doneBegin;
        int doneEnd;
        int[] needs = new int[4];

        Item copy() {
            Item c = new Item();
            c.length = length;
            c.calendar = calendar;
            c.rank = rank;
            c.first = first;
            c.done = done;
            c.doneBegin = doneBegin;
            c.doneEnd = doneEnd;
            c.needs = needs.clone();
            return c;
        }
    }

    private record Arrow(int from, int to, int kind, int lag) {
    }

    private record KeptItem(int begin, int end, int worth, List<Integer> days) {
    }

    private int[] weeks = {31, 31, 31, 31};
    private List<TreeSet<Integer>> free = new ArrayList<>();
    private int[] sizes = {9, 9, 9, 9};
    private int[] prices = new int[4];
    private List<Item> items = new ArrayList<>();
    private List<Arrow> arrows = new ArrayList<>();
    private int rule = 0;
    private KeptItem[] kept = new KeptItem[24];

    // What was reckoned since the last change; null where nothing was.
    private int[] earlyBegins;
    private int[] lateBegins;
    private int[] levelBegins;
    private List<Integer> levelOrder;

    PlainPlan() {
        for (int c = 0; c < 4; c++) {
            free.add(new TreeSet<>());
        }
    }

    private PlainPlan copy() {
        PlainPlan c = new PlainPlan();
        c.weeks = weeks.clone();
        c.free = new ArrayList<>();
        for (TreeSet<Integer> f : free) {
            c.free.add(new TreeSet<>(f));
        }
        c.sizes = sizes.clone();
        c.prices = prices.clone();
        for (Item item : items) {
            c.items.add(item.copy());
        }
        c.arrows = new ArrayList<>(arrows);
        c.rule = rule;
        c.kept = kept.clone();
        return c;
    }

    private void changed() {
        earlyBegins = null;
        lateBegins = null;
        levelBegins = null;
        levelOrder = null;
    }

    private static void need(boolean ok, RuntimeException otherwise) {
        if (!ok) {
            throw otherwise;
        }
    }

    private static void there(int index, int count) {
        need(0 <= index && index < count, new IndexOutOfBoundsException());
    }

    private static void fits(int value, int least, int most) {
        need(least <= value && value <= most, new IllegalArgumentException());
    }

    // ---- what there is

    int setWeek(int calendar, int weekdays) {
        there(calendar, 4);
        fits(weekdays, 1, 127);
        int before = weeks[calendar];
        weeks[calendar] = weekdays;
        changed();
        return before;
    }

    boolean setFree(int calendar, int day, boolean isFree) {
        there(calendar, 4);
        fits(day, 0, 999);
        TreeSet<Integer> then = new TreeSet<>(free.get(calendar));
        if (isFree) {
            then.add(day);
        } else {
            then.remove(day);
        }
        need(then.size() <= 12, new IllegalStateException());
        boolean before = free.get(calendar).contains(day);
        free.set(calendar, then);
        changed();
        return before;
    }

    int setCrew(int crew, int size, int price) {
        there(crew, 4);
        fits(size, 0, 9);
        fits(price, 0, 99);
        int before = sizes[crew];
        sizes[crew] = size;
        prices[crew] = price;
        changed();
        return before;
    }

    int addTask(int length, int calendar) {
        there(calendar, 4);
        fits(length, 0, 20);
        need(items.size() < 24, new IllegalStateException());
        Item item = new Item();
        item.length = length;
        item.calendar = calendar;
        items.add(item);
        changed();
        return items.size() - 1;
    }

    int setLength(int task, int length) {
        there(task, items.size());
        fits(length, 0, 20);
        int before = items.get(task).length;
        items.get(task).length = length;
        changed();
        return before;
    }

    int setTerms(int task, int rank, int first) {
        there(task, items.size());
        fits(rank, 0, 9);
        fits(first, 0, 999);
        int before = items.get(task).first;
        items.get(task).rank = rank;
        items.get(task).first = first;
        changed();
        return before;
    }

    int setNeed(int task, int crew, int needs) {
        there(task, items.size());
        there(crew, 4);
        fits(needs, 0, 9);
        int before = items.get(task).needs[crew];
        items.get(task).needs[crew] = needs;
        changed();
        return before;
    }

    int link(int from, int to, int kind, int lag) {
        there(from, items.size());
        there(to, items.size());
        fits(kind, 0, 2);
        fits(lag, 0, 20);
        need(arrows.size() < 40, new IllegalStateException());
        need(!leads(to, from), new IllegalStateException());
        arrows.add(new Arrow(from, to, kind, lag));
        changed();
        return arrows.size() - 1;
    }

    private boolean leads(int from, int to) {
        if (from == to) {
            return true;
        }
        for (Arrow a : arrows) {
            if (a.from() == from && leads(a.to(), to)) {
                return true;
            }
        }
        return false;
    }

    int drop(int link) {
        there(link, arrows.size());
        arrows.remove(link);
        changed();
        return arrows.size();
    }

    boolean finish(int task, int begin, int end) {
        there(task, items.size());
        fits(begin, 0, 999);
        fits(end, begin, 999);
        Item item = items.get(task);
        boolean before = item.done;
        item.done = true;
        item.doneBegin = begin;
        item.doneEnd = end;
        changed();
        return before;
    }

    boolean reopen(int task) {
        there(task, items.size());
        boolean before = items.get(task).done;
        items.get(task).done = false;
        changed();
        return before;
    }

    int setRule(int newRule) {
        fits(newRule, 0, 3);
        int before = rule;
        rule = newRule;
        changed();
        return before;
    }

    int tasks() {
        return items.size();
    }

    int links() {
        return arrows.size();
    }

    boolean works(int calendar, int day) {
        there(calendar, 4);
        fits(day, 0, 9999);
        return open(calendar, day);
    }

    private boolean open(int calendar, int day) {
        return (weeks[calendar] & (1 << (day % 7))) != 0 && !free.get(calendar).contains(day);
    }

    // ---- early and late

    private boolean canBegin(int task, int day) {
        return items.get(task).length == 0 || open(items.get(task).calendar, day);
    }

    private List<Integer> daysFrom(int task, int begin) {
        List<Integer> days = new ArrayList<>();
        for (int day = begin; days.size() < items.get(task).length; day++) {
            if (open(items.get(task).calendar, day)) {
                days.add(day);
            }
        }
        return days;
    }

    private int endFrom(int task, int begin) {
        List<Integer> days = daysFrom(task, begin);
        return days.isEmpty() ? begin : days.get(days.size() - 1) + 1;
    }

    private List<Integer> ownDays(int task) {
        List<Integer> days = new ArrayList<>();
        for (int day = items.get(task).doneBegin; day < items.get(task).doneEnd; day++) {
            if (open(items.get(task).calendar, day)) {
                days.add(day);
            }
        }
        return days;
    }

    private List<Integer> daysAt(int task, int begin) {
        return items.get(task).done ? ownDays(task) : daysFrom(task, begin);
    }

    private int endAt(int task, int begin) {
        return items.get(task).done ? items.get(task).doneEnd : endFrom(task, begin);
    }

    private static boolean asked(Arrow a, int fromBegin, int fromEnd, int toBegin, int toEnd) {
        switch (a.kind()) {
            case 0:
                return toBegin >= fromEnd + a.lag();
            case 1:
                return toBegin >= fromBegin + a.lag();
            default:
                return toEnd >= fromEnd + a.lag();
        }
    }

    private boolean linksHold(int task, int begin, int[] begins, List<Arrow> those) {
        for (Arrow a : those) {
            if (a.to() == task) {
                int fromBegin = begins[a.from()];
                if (!asked(a, fromBegin, endAt(a.from(), fromBegin), begin, endFrom(task, begin))) {
                    return false;
                }
            }
        }
        return true;
    }

    private int firstDay(int task, int[] begins, List<Arrow> those) {
        int day = items.get(task).first;
        while (!canBegin(task, day) || !linksHold(task, day, begins, those)) {
            day++;
        }
        return day;
    }

    private int[] early() {
        if (earlyBegins == null) {
            int[] begins = new int[items.size()];
            boolean[] known = new boolean[items.size()];
            for (int task = 0; task < items.size(); task++) {
                reckonEarly(task, begins, known);
            }
            earlyBegins = begins;
        }
        return earlyBegins;
    }

    private void reckonEarly(int task, int[] begins, boolean[] known) {
        if (known[task]) {
            return;
        }
        for (Arrow a : arrows) {
            if (a.to() == task) {
                reckonEarly(a.from(), begins, known);
            }
        }
        begins[task] = items.get(task).done ? items.get(task).doneBegin : firstDay(task, begins, arrows);
        known[task] = true;
    }

    private int[] late() {
        if (lateBegins == null) {
            int[] begins = new int[items.size()];
            boolean[] known = new boolean[items.size()];
            for (int task = 0; task < items.size(); task++) {
                reckonLate(task, begins, known);
            }
            lateBegins = begins;
        }
        return lateBegins;
    }

    private void reckonLate(int task, int[] begins, boolean[] known) {
        if (known[task]) {
            return;
        }
        for (Arrow a : arrows) {
            if (a.from() == task) {
                reckonLate(a.to(), begins, known);
            }
        }
        known[task] = true;
        if (items.get(task).done) {
            begins[task] = items.get(task).doneBegin;
            return;
        }
        int least = early()[task];
        int day = last();
        while (day > least && !canBeLate(task, day, begins)) {
            day--;
        }
        begins[task] = Math.max(day, least);
    }

    private boolean canBeLate(int task, int day, int[] begins) {
        if (!canBegin(task, day) || endFrom(task, day) > last()) {
            return false;
        }
        for (Arrow a : arrows) {
            if (a.from() == task && !items.get(a.to()).done) {
                int toBegin = begins[a.to()];
                if (!asked(a, day, endFrom(task, day), toBegin, endFrom(a.to(), toBegin))) {
                    return false;
                }
            }
        }
        return true;
    }

    int earlyBegin(int task) {
        there(task, items.size());
        return early()[task];
    }

    int earlyEnd(int task) {
        there(task, items.size());
        return endAt(task, early()[task]);
    }

    int lateBegin(int task) {
        there(task, items.size());
        return late()[task];
    }

    int lateEnd(int task) {
        there(task, items.size());
        return endAt(task, late()[task]);
    }

    int room(int task) {
        there(task, items.size());
        if (items.get(task).done) {
            return 0;
        }
        int days = 0;
        for (int day = early()[task]; day < late()[task]; day++) {
            if (canBegin(task, day)) {
                days++;
            }
        }
        return days;
    }

    int last() {
        int greatest = 0;
        for (int task = 0; task < items.size(); task++) {
            greatest = Math.max(greatest, earlyEnd(task));
        }
        return greatest;
    }

    int tight() {
        int count = 0;
        for (int task = 0; task < items.size(); task++) {
            if (!items.get(task).done && room(task) == 0) {
                count++;
            }
        }
        return count;
    }

    private int[] load(int crew, int[] begins) {
        int[] load = new int[12000];
        for (int task = 0; task < items.size(); task++) {
            if (begins[task] >= 0) {
                for (int day : daysAt(task, begins[task])) {
                    load[day] += items.get(task).needs[crew];
                }
            }
        }
        return load;
    }

    int wanted(int crew, int day) {
        there(crew, 4);
        fits(day, 0, 9999);
        return load(crew, early())[day];
    }

    int overloaded(int crew) {
        there(crew, 4);
        int days = 0;
        for (int hands : load(crew, early())) {
            if (hands > sizes[crew]) {
                days++;
            }
        }
        return days;
    }

    // ---- levelled

    private boolean tooLarge(int task) {
        for (int crew = 0; crew < 4; crew++) {
            if (items.get(task).needs[crew] > sizes[crew]) {
                return items.get(task).length > 0;
            }
        }
        return false;
    }

    private boolean isStuck(int task) {
        if (items.get(task).done) {
            return false;
        }
        if (tooLarge(task)) {
            return true;
        }
        for (Arrow a : arrows) {
            if (a.to() == task && isStuck(a.from())) {
                return true;
            }
        }
        return false;
    }

    private int[] level() {
        if (levelBegins == null) {
            levelBegins = new int[items.size()];
            Arrays.fill(levelBegins, -1);
            levelOrder = new ArrayList<>();
            for (int task = 0; task < items.size(); task++) {
                if (items.get(task).done) {
                    levelBegins[task] = items.get(task).doneBegin;
                    levelOrder.add(task);
                }
            }
            for (int task = next(); task >= 0; task = next()) {
                levelBegins[task] = firstLevelled(task);
                levelOrder.add(task);
            }
        }
        return levelBegins;
    }

    private int next() {
        List<Integer> open = new ArrayList<>();
        for (int task = 0; task < items.size(); task++) {
            boolean ready = !levelOrder.contains(task) && !isStuck(task);
            for (Arrow a : arrows) {
                ready &= a.to() != task || levelOrder.contains(a.from());
            }
            if (ready) {
                open.add(task);
            }
        }
        int best = -1;
        for (int task : open) {
            if (best < 0 || isBetter(task, best)) {
                best = task;
            }
        }
        return best;
    }

    private boolean isBetter(int task, int other) {
        switch (rule) {
            case 0:
                return lateBegin(task) < lateBegin(other);
            case 1:
                return room(task) < room(other);
            case 2:
                return items.get(task).rank > items.get(other).rank;
            default:
                return items.get(task).length > items.get(other).length;
        }
    }

    private int firstLevelled(int task) {
        int[][] loads = new int[4][];
        for (int crew = 0; crew < 4; crew++) {
            loads[crew] = load(crew, levelBegins);
        }
        int day = firstDay(task, levelBegins, arrows);
        while (!canBegin(task, day) || !crewsDo(task, day, loads)) {
            day++;
        }
        return day;
    }

    private boolean crewsDo(int task, int begin, int[][] loads) {
        for (int day : daysFrom(task, begin)) {
            for (int crew = 0; crew < 4; crew++) {
                int needs = items.get(task).needs[crew];
                if (needs > 0 && sizes[crew] - loads[crew][day] < needs) {
                    return false;
                }
            }
        }
        return true;
    }

    int begin(int task) {
        there(task, items.size());
        return level()[task];
    }

    int end(int task) {
        there(task, items.size());
        return level()[task] < 0 ? -1 : endAt(task, level()[task]);
    }

    int levelledLast() {
        int greatest = 0;
        for (int task = 0; task < items.size(); task++) {
            greatest = Math.max(greatest, end(task));
        }
        return greatest;
    }

    int stuck() {
        int count = 0;
        for (int task = 0; task < items.size(); task++) {
            if (isStuck(task)) {
                count++;
            }
        }
        return count;
    }

    int orderAt(int place) {
        level();
        there(place, levelOrder.size());
        return levelOrder.get(place);
    }

    int used(int crew, int day) {
        there(crew, 4);
        fits(day, 0, 9999);
        return load(crew, level())[day];
    }

    int peak(int crew) {
        there(crew, 4);
        int greatest = 0;
        for (int hands : load(crew, level())) {
            greatest = Math.max(greatest, hands);
        }
        return greatest;
    }

    int holds(int task) {
        there(task, items.size());
        if (items.get(task).done || isStuck(task)) {
            return -1;
        }
        int begin = level()[task];
        if (begin > firstDay(task, level(), arrows)) {
            return 2;
        }
        return begin > firstDay(task, level(), List.of()) ? 1 : 0;
    }

    int heldBy(int task) {
        if (holds(task) != 1) {
            return -1;
        }
        for (int i = 0; i < arrows.size(); i++) {
            Arrow a = arrows.get(i);
            if (a.to() == task && firstDay(task, level(), List.of(a)) == level()[task]) {
                return i;
            }
        }
        throw new AssertionError("no link holds task " + task);
    }

    int idle(int crew) {
        there(crew, 4);
        int[] load = load(crew, level());
        int sum = 0;
        for (int day = 0; day < levelledLast(); day++) {
            if (load[day] < sizes[crew]) {
                sum += sizes[crew] - load[day];
            }
        }
        return sum;
    }

    // ---- kept, and done

    private int worthOf(int task) {
        int sum = 0;
        for (int crew = 0; crew < 4; crew++) {
            sum += items.get(task).length * items.get(task).needs[crew] * prices[crew];
        }
        return sum;
    }

    int keep() {
        kept = new KeptItem[24];
        for (int task : levelOrderNow()) {
            int begin = level()[task];
            kept[task] = new KeptItem(begin, end(task), worthOf(task), daysAt(task, begin));
        }
        return levelOrder.size();
    }

    private List<Integer> levelOrderNow() {
        level();
        return levelOrder;
    }

    int behind(int task) {
        there(task, items.size());
        return kept[task] == null || isStuck(task) ? 0 : end(task) - kept[task].end();
    }

    int planned(int day) {
        fits(day, 0, 9999);
        int sum = 0;
        for (KeptItem item : kept) {
            if (item != null && !item.days().isEmpty()) {
                long ahead = item.days().stream().filter(d -> d < day).count();
                sum += (int) (item.worth() * ahead / item.days().size());
            }
        }
        return sum;
    }

    int earned() {
        int sum = 0;
        for (int task = 0; task < items.size(); task++) {
            if (kept[task] != null && items.get(task).done) {
                sum += kept[task].worth();
            }
        }
        return sum;
    }

    int worth() {
        int sum = 0;
        for (int task = 0; task < items.size(); task++) {
            sum += worthOf(task);
        }
        return sum;
    }

    double pace(int day) {
        int due = planned(day);
        return due == 0 ? 0 : earned() / (double) due;
    }

    // ---- what would be

    int lastWith(int task, int length) {
        PlainPlan other = copy();
        other.setLength(task, length);
        return other.last();
    }

    int levelledWith(int crew, int size) {
        there(crew, 4);
        PlainPlan other = copy();
        other.setCrew(crew, size, prices[crew]);
        return other.levelledLast();
    }

    int levelledWithout(int link) {
        PlainPlan other = copy();
        other.drop(link);
        return other.levelledLast();
    }

    int bestRule() {
        int[] lasts = new int[4];
        for (int r = 0; r < 4; r++) {
            PlainPlan other = copy();
            other.setRule(r);
            lasts[r] = other.levelledLast();
        }
        int least = Arrays.stream(lasts).min().getAsInt();
        for (int r = 0; r < 4; r++) {
            if (lasts[r] == least) {
                return r;
            }
        }
        throw new AssertionError();
    }

    int couldGrow(int task) {
        there(task, items.size());
        int now = last();
        for (int more = 1; items.get(task).length + more <= 20; more++) {
            if (lastWith(task, items.get(task).length + more) != now) {
                return more - 1;
            }
        }
        return 20 - items.get(task).length;
    }

    long digest() {
        List<Integer> values = new ArrayList<>(
                List.of(tasks(), links(), last(), tight(), levelledLast(), stuck()));
        for (int t = 0; t < items.size(); t++) {
            values.addAll(List.of(earlyBegin(t), earlyEnd(t), lateBegin(t), lateEnd(t), room(t)));
            values.addAll(List.of(begin(t), end(t), holds(t), heldBy(t), behind(t)));
        }
        for (int crew = 0; crew < 4; crew++) {
            values.addAll(List.of(overloaded(crew), peak(crew), idle(crew)));
        }
        values.addAll(levelOrderNow());
        values.addAll(List.of(earned(), worth(), planned(levelledLast())));
        long d = 2633;
        for (int v : values) {
            d = d * 31 + v;
        }
        return d;
    }
}
