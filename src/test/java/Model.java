import java.util.ArrayList;
import java.util.Comparator;
import java.util.List;
import java.util.TreeSet;
import java.util.function.IntPredicate;
import java.util.regex.Matcher;
import java.util.regex.Pattern;

/**
 * The document once more, written as plainly as the Java library allows and in another way than the class:
 * lists that are copied whole, texts by patterns, drops by sorting. ModelTest compares the two.
 */
final class Model {
    private static final Pattern STATEMENT = Pattern.compile("[a-d][=<>]\\?(&[a-d][=<>]\\?){0,3}");
    private static final int[] LEAST = {0, 0, 1, 1, 1};
    private static final int[] MOST = {1000, 1000, 99, 9, 8};

    private static final int INVALID = -1;
    private static final int NOT_POSSIBLE = -2;
    private static final int LIMIT = -3;
    private static final int NOT_FOUND = -4;

    private record Row(int[] values, int weight) { }

    private static final class Kept {
        int number;
        int statement;
        int own;
        int way;
        int estimate;
        int uses;
        int surprises;
        boolean pinned;
        int lastRun;

        Kept copy() {
            Kept c = new Kept();
            c.number = number;
            c.statement = statement;
            c.own = own;
            c.way = way;
            c.estimate = estimate;
            c.uses = uses;
            c.surprises = surprises;
            c.pinned = pinned;
            c.lastRun = lastRun;
            return c;
        }
    }

    private static final class World {
        List<Row> rows = new ArrayList<>();
        List<Row> analysed = new ArrayList<>();
        TreeSet<Integer> indexes = new TreeSet<>();
        List<String> statements = new ArrayList<>();
        List<Integer> statementOfRun = new ArrayList<>();
        List<Kept> plans = new ArrayList<>();
        int[] settings = {50, 300, 4, 2, 4};
        int made = 0;
        int hits = 0;
        int dropped = 0;
        int surprises = 0;
        int thrown = 0;
        int[] latest = null;
        int[] latestValues = null;

        World copy() {
            World c = new World();
            c.rows = new ArrayList<>(rows);
            c.analysed = new ArrayList<>(analysed);
            c.indexes = new TreeSet<>(indexes);
            c.statements = new ArrayList<>(statements);
            c.statementOfRun = new ArrayList<>(statementOfRun);
            for (Kept plan : plans) {
                c.plans.add(plan.copy());
            }
            c.settings = settings.clone();
            c.made = made;
            c.hits = hits;
            c.dropped = dropped;
            c.surprises = surprises;
            c.thrown = thrown;
            c.latest = latest;
            c.latestValues = latestValues;
            return c;
        }
    }

    private World w = new World();
    private final List<World> history = new ArrayList<>();
    private String text = "";

    int answer(String call, int[] a) {
        return switch (call) {
            case "row" -> row(a);
            case "dropRow" -> dropRow(a[0]);
            case "index" -> index(a[0], a[1]);
            case "analyse" -> analyse();
            case "rowOf" -> rowOf(a[0], a[1]);
            case "known" -> outside(a[0], 0, 3) || outside(a[1], 0, 31) ? INVALID
                    : weight(w.analysed, a[0], '=', a[1]);
            case "statement" -> statement();
            case "statementOf" -> statementOf(a[0], a[1]);
            case "run" -> run(a);
            case "latest" -> outside(a[0], 0, 7) ? INVALID : w.latest == null ? NOT_FOUND : w.latest[a[0]];
            case "pin" -> pin(a[0], a[1]);
            case "drop" -> drop(a[0]);
            case "set" -> set(a[0], a[1]);
            case "planOf" -> planOf(a[0], a[1]);
            case "planFor" -> planFor(a[0], a[1]);
            case "dropsNext" -> dropsNext(a[0]);
            case "count" -> count(a[0]);
            case "classOf" -> wrongValues(a) ? INVALID : classOf(a);
            case "way" -> wrongValues(a) ? INVALID : best(w.analysed, a)[0];
            case "bestCost" -> w.latest == null ? NOT_FOUND : best(w.rows, w.latestValues)[1];
            case "undo" -> undo();
            case "type" -> type(a[0]);
            case "clearText" -> clearText();
            case "fault" -> fault(a[0]);
            default -> throw new IllegalArgumentException(call);
        };
    }

    private static boolean outside(int number, int least, int most) {
        return number < least || number > most;
    }

    private void record() {
        history.add(w.copy());
        if (history.size() == 5) {
            history.remove(0);
        }
    }

    private static int size(List<Row> rows) {
        return rows.stream().mapToInt(Row::weight).sum();
    }

    private static IntPredicate condition(char operator, int value) {
        return switch (operator) {
            case '=' -> found -> found == value;
            case '<' -> found -> found < value;
            default -> found -> found > value;
        };
    }

    private static int weight(List<Row> rows, int column, char operator, int value) {
        IntPredicate holds = condition(operator, value);
        return rows.stream().filter(row -> holds.test(row.values()[column])).mapToInt(Row::weight).sum();
    }

    private String[] conditions(int statement) {
        return w.statements.get(statement).split("&");
    }

    private static int column(String condition) {
        return "abcd".indexOf(condition.charAt(0));
    }

    private int row(int[] a) {
        for (int k = 0; k < 4; k++) {
            if (outside(a[k], 0, 31)) {
                return INVALID;
            }
        }
        if (outside(a[4], 1, 999)) {
            return INVALID;
        }
        if (w.rows.size() == 30) {
            return LIMIT;
        }
        record();
        w.rows.add(new Row(new int[] {a[0], a[1], a[2], a[3]}, a[4]));
        return w.rows.size() - 1;
    }

    private int dropRow(int row) {
        if (outside(row, 0, w.rows.size() - 1)) {
            return INVALID;
        }
        record();
        return w.rows.remove(row).weight();
    }

    private int index(int column, int is) {
        if (outside(column, 0, 3) || outside(is, 0, 1)) {
            return INVALID;
        }
        if (w.indexes.contains(column) == (is == 1)) {
            return NOT_POSSIBLE;
        }
        record();
        if (is == 1) {
            w.indexes.add(column);
            return 0;
        }
        w.indexes.remove(column);
        int before = w.plans.size();
        w.plans.removeIf(plan -> plan.way != 9 && column(conditions(plan.statement)[plan.way]) == column);
        w.thrown += before - w.plans.size();
        return before - w.plans.size();
    }

    private int analyse() {
        record();
        w.analysed = new ArrayList<>(w.rows);
        return size(w.rows);
    }

    private int rowOf(int row, int what) {
        if (outside(row, 0, w.rows.size() - 1) || outside(what, 0, 4)) {
            return INVALID;
        }
        return what == 4 ? w.rows.get(row).weight() : w.rows.get(row).values()[what];
    }

    private int statement() {
        if (!STATEMENT.matcher(text).matches()) {
            return NOT_POSSIBLE;
        }
        if (!w.statements.contains(text) && w.statements.size() == 6) {
            return LIMIT;
        }
        record();
        if (!w.statements.contains(text)) {
            w.statements.add(text);
        }
        return w.statements.indexOf(text);
    }

    private int statementOf(int statement, int what) {
        boolean some = what >= 0 && what <= 2 || what >= 10 && what <= 13 || what >= 20 && what <= 23;
        if (outside(statement, 0, w.statements.size() - 1) || !some) {
            return INVALID;
        }
        String[] conditions = conditions(statement);
        if (what == 0) {
            return conditions.length;
        }
        if (what == 1) {
            return (int) w.plans.stream().filter(plan -> plan.statement == statement).count();
        }
        if (what == 2) {
            return (int) w.statementOfRun.stream().filter(of -> of == statement).count();
        }
        if (what % 10 >= conditions.length) {
            return NOT_FOUND;
        }
        String condition = conditions[what % 10];
        return what < 20 ? column(condition) : "=<>".indexOf(condition.charAt(1));
    }

    private boolean wrongValues(int[] a) {
        if (outside(a[0], 0, w.statements.size() - 1)) {
            return true;
        }
        for (int k = 0; k < 4; k++) {
            if (outside(a[1 + k], 0, k < conditions(a[0]).length ? 31 : 0)) {
                return true;
            }
        }
        return false;
    }

    private int classOf(int[] a) {
        String digits = "";
        for (int k = 0; k < conditions(a[0]).length; k++) {
            int size = size(w.analysed);
            int share = size == 0 ? 0 : 1000 * weightOf(w.analysed, a, k) / size;
            digits = (share < w.settings[0] ? 0 : share < w.settings[1] ? 1 : 2) + digits;
        }
        return Integer.parseInt(digits, 3);
    }

    private int weightOf(List<Row> rows, int[] a, int k) {
        String condition = conditions(a[0])[k];
        return weight(rows, column(condition), condition.charAt(1), a[1 + k]);
    }

    private int cost(List<Row> rows, int[] a, int way) {
        return way == 9 ? size(rows) : 10 + weightOf(rows, a, way);
    }

    /** The best way and what it costs. */
    private int[] best(List<Row> rows, int[] a) {
        List<int[]> ways = new ArrayList<>();
        for (int k = 0; k < conditions(a[0]).length; k++) {
            if (w.indexes.contains(column(conditions(a[0])[k]))) {
                ways.add(new int[] {k, cost(rows, a, k)});
            }
        }
        ways.add(new int[] {9, cost(rows, a, 9)});
        ways.sort(Comparator.<int[]>comparingInt(way -> way[1]).thenComparingInt(way -> way[0]));
        return ways.get(0);
    }

    /** Those that are not pinned, the next one to be dropped first. */
    private List<Kept> dropOrder() {
        List<Kept> free = new ArrayList<>(w.plans);
        free.removeIf(plan -> plan.pinned);
        free.sort(Comparator.<Kept>comparingInt(plan -> plan.uses).thenComparingInt(plan -> plan.lastRun));
        return free;
    }

    private Kept plan(int number) {
        return w.plans.stream().filter(plan -> plan.number == number).findFirst().orElse(null);
    }

    private int planFor(int statement, int own) {
        if (outside(statement, 0, w.statements.size() - 1) || outside(own, 0, 80)) {
            return INVALID;
        }
        return w.plans.stream().filter(plan -> plan.statement == statement && plan.own == own)
                .mapToInt(plan -> plan.number).findFirst().orElse(NOT_FOUND);
    }

    private int run(int[] a) {
        if (wrongValues(a)) {
            return INVALID;
        }
        record();
        w.statementOfRun.add(a[0]);
        int own = classOf(a);
        int there = planFor(a[0], own);
        int origin = 0;
        int firstDropped = NOT_FOUND;
        Kept used = plan(there);
        if (there != NOT_FOUND) {
            w.hits++;
        } else {
            List<Kept> order = dropOrder();
            while (w.plans.size() >= w.settings[4] && !order.isEmpty()) {
                Kept gone = order.remove(0);
                firstDropped = firstDropped == NOT_FOUND ? gone.number : firstDropped;
                w.plans.remove(gone);
                w.dropped++;
            }
            used = new Kept();
            used.statement = a[0];
            used.own = own;
            used.way = best(w.analysed, a)[0];
            used.estimate = best(w.analysed, a)[1];
            used.number = NOT_FOUND;
            origin = 2;
            if (w.plans.size() < w.settings[4]) {
                origin = 1;
                used.number = w.made++;
                w.plans.add(used);
            }
        }
        used.uses++;
        used.lastRun = w.statementOfRun.size();
        int cost = cost(w.rows, a, used.way);
        boolean surprise = cost > w.settings[2] * used.estimate;
        if (surprise) {
            w.surprises++;
            used.surprises++;
            if (used.surprises >= w.settings[3] && w.plans.remove(used)) {
                w.thrown++;
            }
        }
        w.latest = new int[] {own, used.number, used.way, used.estimate, cost, origin, surprise ? 1 : 0, firstDropped};
        w.latestValues = a.clone();
        return matching(a);
    }

    private int matching(int[] a) {
        List<Row> rows = new ArrayList<>(w.rows);
        for (int k = 0; k < conditions(a[0]).length; k++) {
            String condition = conditions(a[0])[k];
            IntPredicate holds = condition(condition.charAt(1), a[1 + k]);
            rows.removeIf(row -> !holds.test(row.values()[column(condition)]));
        }
        return size(rows);
    }

    private int pin(int number, int is) {
        if (plan(number) == null || outside(is, 0, 1)) {
            return INVALID;
        }
        record();
        plan(number).pinned = is == 1;
        return count(6);
    }

    private int drop(int number) {
        if (plan(number) == null) {
            return INVALID;
        }
        if (plan(number).pinned) {
            return NOT_POSSIBLE;
        }
        record();
        w.plans.remove(plan(number));
        w.thrown++;
        return w.plans.size();
    }

    private int set(int what, int value) {
        if (outside(what, 0, 4) || outside(value, LEAST[what], MOST[what])) {
            return INVALID;
        }
        record();
        int was = w.settings[what];
        w.settings[what] = value;
        return was;
    }

    private int planOf(int number, int what) {
        Kept p = plan(number);
        if (p == null || outside(what, 0, 7)) {
            return INVALID;
        }
        int[] facts = {p.statement, p.own, p.way, p.estimate, p.uses, p.surprises, p.pinned ? 1 : 0,
            w.statementOfRun.size() - p.lastRun};
        return facts[what];
    }

    private int dropsNext(int place) {
        List<Kept> order = dropOrder();
        return place < 0 ? INVALID : place >= order.size() ? NOT_FOUND : order.get(place).number;
    }

    private int count(int what) {
        if (!outside(what, 20, 24)) {
            return w.settings[what - 20];
        }
        int[] counts = {w.rows.size(), size(w.rows), size(w.analysed),
            w.indexes.stream().mapToInt(column -> 1 << column).sum(), w.statements.size(), w.plans.size(),
            (int) w.plans.stream().filter(plan -> plan.pinned).count(), w.statementOfRun.size(), w.hits, w.dropped,
            w.surprises, w.thrown, history.size(), text.length()};
        return outside(what, 0, 13) ? INVALID : counts[what];
    }

    private int undo() {
        if (history.isEmpty()) {
            return NOT_POSSIBLE;
        }
        w = history.remove(history.size() - 1);
        return history.size();
    }

    private int type(int character) {
        if (outside(character, 32, 126)) {
            return INVALID;
        }
        if (text.length() == 30) {
            return LIMIT;
        }
        text = text + (char) character;
        return text.length();
    }

    private int clearText() {
        int had = text.length();
        text = "";
        return had;
    }

    private int fault(int what) {
        if (outside(what, 0, 1)) {
            return INVALID;
        }
        if (STATEMENT.matcher(text).matches()) {
            return NOT_FOUND;
        }
        int place = 0;
        while (place < text.length() && canBegin(text.substring(0, place + 1))) {
            place++;
        }
        boolean fifth = place == 15 && place < text.length() && text.charAt(place) == '&';
        return what == 0 ? place : fifth ? 2 : 1;
    }

    private static boolean canBegin(String start) {
        Matcher matcher = STATEMENT.matcher(start);
        return matcher.matches() || matcher.hitEnd();
    }
}
