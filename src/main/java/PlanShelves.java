/** A cache of statements that keeps several plans for one text; ../shared/DOC.md says what each call does. */
public final class PlanShelves {
    public static final int INVALID_ARGUMENT = -1;
    public static final int NOT_POSSIBLE = -2;
    public static final int LIMIT_REACHED = -3;
    public static final int NOT_FOUND = -4;

    private static final int COLUMNS = 4;
    private static final int VALUES = 32;
    private static final int MOST_ROWS = 30;
    private static final int MOST_WEIGHT = 999;
    private static final int MOST_STATEMENTS = 6;
    private static final int MOST_CONDITIONS = 4;
    private static final int MOST_CLASS = 80;
    private static final int MOST_PLANS = 8;
    private static final int MOST_STATES = 4;
    private static final int MOST_CHARACTERS = 30;

    /** Places in the settings, and the range of each. */
    private static final int BOUND_0 = 0;
    private static final int BOUND_1 = 1;
    private static final int TIMES = 2;
    private static final int SURPRISES = 3;
    private static final int CAPACITY = 4;
    private static final int[] LEAST_SETTING = {0, 0, 1, 1, 1};
    private static final int[] MOST_SETTING = {1000, 1000, 99, 9, 8};

    private static final int WHOLE = 9;
    private static final int INDEX_COST = 10;

    /** An operator's number is its place in the signs; 0 is "equal to". */
    private static final String OPERATORS = "=<>";
    private static final int LESS = 1;
    private static final int GREATER = 2;

    /** Where the plan of a run came from. */
    private static final int WAS_THERE = 0;
    private static final int MADE_AND_KEPT = 1;
    private static final int MADE_NOT_KEPT = 2;

    /** "a=?&": a condition and the sign behind it. */
    private static final int CONDITION_LENGTH = 4;
    private static final int WRONG_CHARACTER = 1;
    private static final int FIFTH_CONDITION = 2;

    private static final int NONE = -1;

    private final State now = new State();
    private final History history = new History();
    private final Text text = new Text();
    /** The values of the call that is being answered; made once, so that no call makes an array. */
    private final int[] given = new int[MOST_CONDITIONS];

    public PlanShelves() {
    }

    // ---- table, indexes, statistics

    public int row(int a, int b, int c, int d, int weight) {
        if (!isValue(a) || !isValue(b) || !isValue(c) || !isValue(d) || !within(weight, 1, MOST_WEIGHT)) {
            return INVALID_ARGUMENT;
        }
        if (now.table.rows >= MOST_ROWS) {
            return LIMIT_REACHED;
        }
        record();
        return now.table.append(gathered(a, b, c, d), weight);
    }

    public int dropRow(int row) {
        if (!now.table.hasRow(row)) {
            return INVALID_ARGUMENT;
        }
        record();
        return now.table.remove(row);
    }

    public int index(int column, int is) {
        if (!isColumn(column) || !within(is, 0, 1)) {
            return INVALID_ARGUMENT;
        }
        if (now.isIndexed(column) == (is == 1)) {
            return NOT_POSSIBLE;
        }
        record();
        now.flipIndex(column);
        return is == 1 ? 0 : now.throwAwayPlansBy(column);
    }

    public int analyse() {
        record();
        now.statistics.takeFrom(now.table.sums);
        return now.statistics.size;
    }

    public int rowOf(int row, int what) {
        if (!now.table.hasRow(row) || !within(what, 0, Table.WEIGHT)) {
            return INVALID_ARGUMENT;
        }
        return now.table.cellAt(row, what);
    }

    public int known(int column, int value) {
        if (!isColumn(column) || !isValue(value)) {
            return INVALID_ARGUMENT;
        }
        return now.statistics.weightOf(column, value);
    }

    // ---- statements

    public int statement() {
        if (text.faultPlace() != NONE) {
            return NOT_POSSIBLE;
        }
        int number = now.statementWith(text);
        if (number == NONE && now.statementCount >= MOST_STATEMENTS) {
            return LIMIT_REACHED;
        }
        record();
        return number == NONE ? now.addStatement(text) : number;
    }

    public int statementOf(int statement, int what) {
        if (!now.hasStatement(statement)) {
            return INVALID_ARGUMENT;
        }
        Statement asked = now.statementAt(statement);
        switch (what) {
            case 0: return asked.conditions;
            case 1: return now.shelf.keptFor(statement);
            case 2: return asked.runs;
            case 10: case 11: case 12: case 13:
                return asked.hasCondition(what - 10) ? asked.columnAt(what - 10) : NOT_FOUND;
            case 20: case 21: case 22: case 23:
                return asked.hasCondition(what - 20) ? asked.operatorAt(what - 20) : NOT_FOUND;
            default: return INVALID_ARGUMENT;
        }
    }

    // ---- running

    public int run(int statement, int v0, int v1, int v2, int v3) {
        if (!accepts(statement, v0, v1, v2, v3)) {
            return INVALID_ARGUMENT;
        }
        record();
        return now.execute(statement, gathered(v0, v1, v2, v3));
    }

    public int latest(int what) {
        if (!within(what, 0, 7)) {
            return INVALID_ARGUMENT;
        }
        return now.lastRun.tell(what);
    }

    public int pin(int plan, int is) {
        int place = now.shelf.placeOf(plan);
        if (place == NONE || !within(is, 0, 1)) {
            return INVALID_ARGUMENT;
        }
        record();
        now.shelf.planAt(place).pinned = is == 1;
        return now.shelf.pinned();
    }

    public int drop(int plan) {
        int place = now.shelf.placeOf(plan);
        if (place == NONE) {
            return INVALID_ARGUMENT;
        }
        if (now.shelf.planAt(place).pinned) {
            return NOT_POSSIBLE;
        }
        record();
        now.shelf.throwAway(place);
        return now.shelf.kept;
    }

    public int set(int what, int value) {
        if (!within(what, 0, CAPACITY) || !within(value, at(LEAST_SETTING, what), at(MOST_SETTING, what))) {
            return INVALID_ARGUMENT;
        }
        record();
        return now.changeSetting(what, value);
    }

    // ---- plans

    public int planOf(int plan, int what) {
        int place = now.shelf.placeOf(plan);
        if (place == NONE || !within(what, 0, 7)) {
            return INVALID_ARGUMENT;
        }
        return now.shelf.planAt(place).tell(what, now.runs);
    }

    public int planFor(int statement, int own) {
        if (!now.hasStatement(statement) || !within(own, 0, MOST_CLASS)) {
            return INVALID_ARGUMENT;
        }
        return now.shelf.numberAt(now.shelf.placeFor(statement, own));
    }

    public int dropsNext(int place) {
        if (place < 0) {
            return INVALID_ARGUMENT;
        }
        return now.shelf.numberAt(now.shelf.placeToDrop(place));
    }

    public int count(int what) {
        switch (what) {
            case 0: return now.table.rows;
            case 1: return now.table.sums.size;
            case 2: return now.statistics.size;
            case 3: return now.indexes;
            case 4: return now.statementCount;
            case 5: return now.shelf.kept;
            case 6: return now.shelf.pinned();
            case 7: return now.runs;
            case 8: return now.hits;
            case 9: return now.shelf.dropped;
            case 10: return now.surprises;
            case 11: return now.shelf.thrownAway;
            case 12: return history.kept;
            case 13: return text.length;
            case 20: case 21: case 22: case 23: case 24:
                return at(now.settings, what - 20);
            default: return INVALID_ARGUMENT;
        }
    }

    // ---- what would be

    public int classOf(int statement, int v0, int v1, int v2, int v3) {
        if (!accepts(statement, v0, v1, v2, v3)) {
            return INVALID_ARGUMENT;
        }
        return now.classWith(now.statementAt(statement), gathered(v0, v1, v2, v3));
    }

    public int way(int statement, int v0, int v1, int v2, int v3) {
        if (!accepts(statement, v0, v1, v2, v3)) {
            return INVALID_ARGUMENT;
        }
        return now.bestWay(now.statistics, now.statementAt(statement), gathered(v0, v1, v2, v3));
    }

    public int bestCost() {
        if (!now.lastRun.was) {
            return NOT_FOUND;
        }
        Statement statement = now.statementAt(now.lastRun.statement);
        int best = now.bestWay(now.table.sums, statement, now.lastRun.values);
        return cost(now.table.sums, statement, now.lastRun.values, best);
    }

    public int undo() {
        if (history.kept == 0) {
            return NOT_POSSIBLE;
        }
        history.popInto(now);
        return history.kept;
    }

    // ---- texts

    public int type(int character) {
        if (!within(character, 32, 126)) {
            return INVALID_ARGUMENT;
        }
        if (text.length >= MOST_CHARACTERS) {
            return LIMIT_REACHED;
        }
        return text.append((char) character);
    }

    public int clearText() {
        return text.empty();
    }

    public int fault(int what) {
        if (!within(what, 0, 1)) {
            return INVALID_ARGUMENT;
        }
        int place = text.faultPlace();
        if (place == NONE) {
            return NOT_FOUND;
        }
        return what == 0 ? place : text.reasonAt(place);
    }

    // ---- what several calls share

    /** Goes ahead of every change, once no error can come any more. */
    private void record() {
        history.push(now);
    }

    private boolean accepts(int statement, int v0, int v1, int v2, int v3) {
        if (!now.hasStatement(statement)) {
            return false;
        }
        Statement asked = now.statementAt(statement);
        return asked.takes(0, v0) && asked.takes(1, v1) && asked.takes(2, v2) && asked.takes(3, v3);
    }

    private int[] gathered(int v0, int v1, int v2, int v3) {
        put(given, 0, v0);
        put(given, 1, v1);
        put(given, 2, v2);
        put(given, 3, v3);
        return given;
    }

    private static boolean within(int number, int least, int most) {
        return number >= least && number <= most;
    }

    private static boolean isValue(int number) {
        return within(number, 0, VALUES - 1);
    }

    private static boolean isColumn(int number) {
        return within(number, 0, COLUMNS - 1);
    }

    /** The number at a place of a row of numbers; 0 where there is no such place. */
    private static int at(int[] numbers, int place) {
        return place >= 0 && place < numbers.length ? numbers[place] : 0;
    }

    /** Changes nothing where there is no such place. */
    private static void put(int[] numbers, int place, int number) {
        if (place >= 0 && place < numbers.length) {
            numbers[place] = number;
        }
    }

    private static void copy(int[] from, int[] to) {
        for (int place = 0; place < from.length && place < to.length; place++) {
            to[place] = from[place];
        }
    }

    private static boolean holds(int found, int operator, int value) {
        switch (operator) {
            case LESS: return found < value;
            case GREATER: return found > value;
            default: return found == value;
        }
    }

    /** By the statistics or truly: that is which sums are handed in. */
    private static int cost(Sums sums, Statement statement, int[] values, int way) {
        if (way == WHOLE) {
            return sums.size;
        }
        return INDEX_COST + sums.weightWhere(statement.columnAt(way), statement.operatorAt(way), at(values, way));
    }

    /** The weights of rows by column and value, and of all rows. */
    private static final class Sums {
        private final int[] weights = new int[COLUMNS * VALUES];
        private int size;

        int weightOf(int column, int value) {
            int place = column * VALUES + value;
            return place >= 0 && place < weights.length ? weights[place] : 0;
        }

        void add(int column, int value, int weight) {
            put(weights, column * VALUES + value, weightOf(column, value) + weight);
        }

        int weightWhere(int column, int operator, int value) {
            int sum = 0;
            for (int found = 0; found < VALUES; found++) {
                if (holds(found, operator, value)) {
                    sum += weightOf(column, found);
                }
            }
            return sum;
        }

        void takeFrom(Sums other) {
            copy(other.weights, weights);
            size = other.size;
        }
    }

    /** The rows, and their true sums, which follow every change of the rows. */
    private static final class Table {
        private static final int WEIGHT = COLUMNS;
        private static final int WIDTH = COLUMNS + 1;

        private final int[] cells = new int[MOST_ROWS * WIDTH];
        private final Sums sums = new Sums();
        private int rows;

        boolean hasRow(int row) {
            return row >= 0 && row < rows;
        }

        int cellAt(int row, int what) {
            return at(cells, row * WIDTH + what);
        }

        int append(int[] values, int weight) {
            for (int column = 0; column < COLUMNS; column++) {
                put(cells, rows * WIDTH + column, at(values, column));
            }
            put(cells, rows * WIDTH + WEIGHT, weight);
            addToSums(rows, weight);
            rows++;
            return rows - 1;
        }

        int remove(int row) {
            int weight = cellAt(row, WEIGHT);
            addToSums(row, -weight);
            rows--;
            for (int place = row * WIDTH; place < rows * WIDTH; place++) {
                put(cells, place, at(cells, place + WIDTH));
            }
            return weight;
        }

        int weightWhere(Statement statement, int[] values) {
            int sum = 0;
            for (int row = 0; row < rows; row++) {
                if (fits(row, statement, values)) {
                    sum += cellAt(row, WEIGHT);
                }
            }
            return sum;
        }

        private boolean fits(int row, Statement statement, int[] values) {
            for (int k = 0; k < statement.conditions; k++) {
                int found = cellAt(row, statement.columnAt(k));
                if (!holds(found, statement.operatorAt(k), at(values, k))) {
                    return false;
                }
            }
            return true;
        }

        private void addToSums(int row, int weight) {
            for (int column = 0; column < COLUMNS; column++) {
                sums.add(column, cellAt(row, column), weight);
            }
            sums.size += weight;
        }

        void takeFrom(Table other) {
            copy(other.cells, cells);
            sums.takeFrom(other.sums);
            rows = other.rows;
        }
    }

    /** The characters that were typed, and what is wrong with them as a statement. */
    private static final class Text {
        private final char[] characters = new char[MOST_CHARACTERS];
        private int length;

        int append(char character) {
            if (length >= 0 && length < characters.length) {
                characters[length] = character;
                length++;
            }
            return length;
        }

        int empty() {
            int had = length;
            length = 0;
            return had;
        }

        int faultPlace() {
            for (int place = 0; place < length; place++) {
                if (!canStandAt(place)) {
                    return place;
                }
            }
            return length % CONDITION_LENGTH == CONDITION_LENGTH - 1 ? NONE : length;
        }

        int reasonAt(int place) {
            return isBehindLastCondition(place) && characterAt(place) == '&' ? FIFTH_CONDITION : WRONG_CHARACTER;
        }

        int conditions() {
            return (length + 1) / CONDITION_LENGTH;
        }

        int columnOf(int condition) {
            return characterAt(condition * CONDITION_LENGTH) - 'a';
        }

        int operatorOf(int condition) {
            return OPERATORS.indexOf(characterAt(condition * CONDITION_LENGTH + 1));
        }

        private boolean canStandAt(int place) {
            char character = characterAt(place);
            switch (place % CONDITION_LENGTH) {
                case 0: return character >= 'a' && character < 'a' + COLUMNS;
                case 1: return OPERATORS.indexOf(character) >= 0;
                case 2: return character == '?';
                default: return character == '&' && !isBehindLastCondition(place);
            }
        }

        private boolean isBehindLastCondition(int place) {
            return place == MOST_CONDITIONS * CONDITION_LENGTH - 1;
        }

        private char characterAt(int place) {
            return place >= 0 && place < length && place < characters.length ? characters[place] : ' ';
        }
    }

    private static final class Statement {
        private final int[] columns = new int[MOST_CONDITIONS];
        private final int[] operators = new int[MOST_CONDITIONS];
        private int conditions;
        private int runs;

        boolean hasCondition(int k) {
            return k >= 0 && k < conditions;
        }

        int columnAt(int k) {
            return at(columns, k);
        }

        int operatorAt(int k) {
            return at(operators, k);
        }

        /** The value of a condition that there is not must be 0. */
        boolean takes(int k, int value) {
            return hasCondition(k) ? isValue(value) : value == 0;
        }

        /** Texts without a fault are the same if their conditions are. */
        boolean isOf(Text text) {
            if (text.conditions() != conditions) {
                return false;
            }
            for (int k = 0; k < conditions; k++) {
                if (columnAt(k) != text.columnOf(k) || operatorAt(k) != text.operatorOf(k)) {
                    return false;
                }
            }
            return true;
        }

        void readFrom(Text text) {
            conditions = Math.min(text.conditions(), MOST_CONDITIONS);
            for (int k = 0; k < conditions; k++) {
                put(columns, k, text.columnOf(k));
                put(operators, k, text.operatorOf(k));
            }
            runs = 0;
        }

        void takeFrom(Statement other) {
            copy(other.columns, columns);
            copy(other.operators, operators);
            conditions = other.conditions;
            runs = other.runs;
        }
    }

    private static final class Plan {
        /** NOT_FOUND if the plan is not kept. */
        private int number = NOT_FOUND;
        private int statement;
        private int own;
        private int way;
        private int estimate;
        private int uses;
        private int surprises;
        private boolean pinned;
        /** How many runs there were when it was used last, that run included. */
        private int lastUse;

        void begin(int itsNumber, int itsStatement, int itsClass) {
            number = itsNumber;
            statement = itsStatement;
            own = itsClass;
            uses = 0;
            surprises = 0;
            pinned = false;
        }

        boolean dropsAheadOf(Plan other) {
            return uses != other.uses ? uses < other.uses : lastUse < other.lastUse;
        }

        int tell(int what, int runs) {
            switch (what) {
                case 0: return statement;
                case 1: return own;
                case 2: return way;
                case 3: return estimate;
                case 4: return uses;
                case 5: return surprises;
                case 6: return pinned ? 1 : 0;
                default: return runs - lastUse;
            }
        }

        void takeFrom(Plan other) {
            number = other.number;
            statement = other.statement;
            own = other.own;
            way = other.way;
            estimate = other.estimate;
            uses = other.uses;
            surprises = other.surprises;
            pinned = other.pinned;
            lastUse = other.lastUse;
        }
    }

    /** The plans that are kept, in no order that matters. */
    private static final class Shelf {
        private final Plan[] plans = new Plan[MOST_PLANS];
        /** The plan of a run whose plan is not kept. */
        private final Plan loose = new Plan();
        private int kept;
        private int made;
        private int dropped;
        private int thrownAway;

        Shelf() {
            for (int place = 0; place < plans.length; place++) {
                plans[place] = new Plan();
            }
        }

        Plan planAt(int place) {
            if (place < 0 || place >= plans.length) {
                return loose;
            }
            Plan plan = plans[place];
            return plan == null ? loose : plan;
        }

        int numberAt(int place) {
            return place < 0 || place >= kept ? NOT_FOUND : planAt(place).number;
        }

        int placeOf(int number) {
            for (int place = 0; place < kept; place++) {
                if (planAt(place).number == number) {
                    return place;
                }
            }
            return NONE;
        }

        int placeFor(int statement, int own) {
            for (int place = 0; place < kept; place++) {
                Plan plan = planAt(place);
                if (plan.statement == statement && plan.own == own) {
                    return place;
                }
            }
            return NONE;
        }

        int keptFor(int statement) {
            int sum = 0;
            for (int place = 0; place < kept; place++) {
                if (planAt(place).statement == statement) {
                    sum++;
                }
            }
            return sum;
        }

        int pinned() {
            int sum = 0;
            for (int place = 0; place < kept; place++) {
                if (planAt(place).pinned) {
                    sum++;
                }
            }
            return sum;
        }

        /** The plan that so many others are dropped ahead of; no two were used last by the same run. */
        int placeToDrop(int others) {
            for (int place = 0; place < kept; place++) {
                if (!planAt(place).pinned && droppedAheadOf(planAt(place)) == others) {
                    return place;
                }
            }
            return NONE;
        }

        private int droppedAheadOf(Plan plan) {
            int sum = 0;
            for (int place = 0; place < kept; place++) {
                Plan other = planAt(place);
                if (!other.pinned && other.dropsAheadOf(plan)) {
                    sum++;
                }
            }
            return sum;
        }

        /** Drops plans until fewer than so many are kept or all are pinned, and tells the first one's number. */
        int makeRoom(int capacity) {
            int first = NOT_FOUND;
            int next = placeToDrop(0);
            for (int left = kept; left >= capacity && next != NONE; left--) {
                if (first == NOT_FOUND) {
                    first = numberAt(next);
                }
                remove(next);
                dropped++;
                next = placeToDrop(0);
            }
            return first;
        }

        /** A plan with a number of its own if there is room, or the loose one, which has none. */
        Plan newPlan(int statement, int own, int capacity) {
            if (kept >= capacity || kept >= plans.length) {
                loose.begin(NOT_FOUND, statement, own);
                return loose;
            }
            Plan plan = planAt(kept);
            plan.begin(made, statement, own);
            kept++;
            made++;
            return plan;
        }

        void throwAway(int place) {
            if (place >= 0 && place < kept) {
                remove(place);
                thrownAway++;
            }
        }

        private void remove(int place) {
            int last = kept - 1;
            if (place >= 0 && place <= last && last < plans.length) {
                Plan gone = plans[place];
                plans[place] = plans[last];
                plans[last] = gone;
                kept--;
            }
        }

        void takeFrom(Shelf other) {
            for (int place = 0; place < plans.length; place++) {
                planAt(place).takeFrom(other.planAt(place));
            }
            kept = other.kept;
            made = other.made;
            dropped = other.dropped;
            thrownAway = other.thrownAway;
        }
    }

    /** What latest() and bestCost() need to know of the latest run. */
    private static final class LastRun {
        private final int[] values = new int[MOST_CONDITIONS];
        private boolean was;
        private int statement;
        private int own;
        private int plan;
        private int way;
        private int estimate;
        private int cost;
        private int origin;
        private boolean surprise;
        private int dropped;

        void begin(int itsStatement, int[] itsValues, int itsClass) {
            was = true;
            statement = itsStatement;
            copy(itsValues, values);
            own = itsClass;
            dropped = NOT_FOUND;
        }

        int tell(int what) {
            if (!was) {
                return NOT_FOUND;
            }
            switch (what) {
                case 0: return own;
                case 1: return plan;
                case 2: return way;
                case 3: return estimate;
                case 4: return cost;
                case 5: return origin;
                case 6: return surprise ? 1 : 0;
                default: return dropped;
            }
        }

        void takeFrom(LastRun other) {
            copy(other.values, values);
            was = other.was;
            statement = other.statement;
            own = other.own;
            plan = other.plan;
            way = other.way;
            estimate = other.estimate;
            cost = other.cost;
            origin = other.origin;
            surprise = other.surprise;
            dropped = other.dropped;
        }
    }

    /** All that undo() restores. */
    private static final class State {
        private final Table table = new Table();
        private final Sums statistics = new Sums();
        private final Statement[] statements = new Statement[MOST_STATEMENTS];
        /** Stands where there is no statement: it has no conditions. */
        private final Statement blank = new Statement();
        private final Shelf shelf = new Shelf();
        private final LastRun lastRun = new LastRun();
        private final int[] settings = {50, 300, 4, 2, 4};
        private int indexes;
        private int statementCount;
        private int runs;
        private int hits;
        private int surprises;

        State() {
            for (int number = 0; number < statements.length; number++) {
                statements[number] = new Statement();
            }
        }

        boolean isIndexed(int column) {
            return (indexes >> column & 1) == 1;
        }

        void flipIndex(int column) {
            indexes ^= 1 << column;
        }

        int throwAwayPlansBy(int column) {
            int before = shelf.kept;
            for (int place = before - 1; place >= 0; place--) {
                Plan plan = shelf.planAt(place);
                if (plan.way != WHOLE && statementAt(plan.statement).columnAt(plan.way) == column) {
                    shelf.throwAway(place);
                }
            }
            return before - shelf.kept;
        }

        int changeSetting(int what, int value) {
            int was = at(settings, what);
            put(settings, what, value);
            return was;
        }

        boolean hasStatement(int number) {
            return number >= 0 && number < statementCount;
        }

        Statement statementAt(int number) {
            if (number < 0 || number >= statements.length) {
                return blank;
            }
            Statement statement = statements[number];
            return statement == null ? blank : statement;
        }

        int statementWith(Text text) {
            for (int number = 0; number < statementCount; number++) {
                if (statementAt(number).isOf(text)) {
                    return number;
                }
            }
            return NONE;
        }

        int addStatement(Text text) {
            statementAt(statementCount).readFrom(text);
            statementCount++;
            return statementCount - 1;
        }

        int classWith(Statement statement, int[] values) {
            int sum = 0;
            int worth = 1;
            for (int k = 0; k < statement.conditions; k++) {
                int weight = statistics.weightWhere(statement.columnAt(k), statement.operatorAt(k), at(values, k));
                sum += worth * classOfShare(statistics.size == 0 ? 0 : 1000 * weight / statistics.size);
                worth *= 3;
            }
            return sum;
        }

        private int classOfShare(int share) {
            if (share < at(settings, BOUND_0)) {
                return 0;
            }
            return share < at(settings, BOUND_1) ? 1 : 2;
        }

        int bestWay(Sums sums, Statement statement, int[] values) {
            int best = WHOLE;
            int least = 0;
            for (int k = 0; k < statement.conditions; k++) {
                if (isIndexed(statement.columnAt(k))) {
                    int cost = cost(sums, statement, values, k);
                    if (best == WHOLE || cost < least) {
                        best = k;
                        least = cost;
                    }
                }
            }
            return sums.size < least ? WHOLE : best;
        }

        int execute(int number, int[] values) {
            Statement statement = statementAt(number);
            runs++;
            statement.runs++;
            lastRun.begin(number, values, classWith(statement, values));
            use(planForLastRun(statement, values), statement, values);
            return table.weightWhere(statement, values);
        }

        private Plan planForLastRun(Statement statement, int[] values) {
            int place = shelf.placeFor(lastRun.statement, lastRun.own);
            if (place != NONE) {
                hits++;
                lastRun.origin = WAS_THERE;
                return shelf.planAt(place);
            }
            int capacity = at(settings, CAPACITY);
            lastRun.dropped = shelf.makeRoom(capacity);
            Plan plan = shelf.newPlan(lastRun.statement, lastRun.own, capacity);
            plan.way = bestWay(statistics, statement, values);
            plan.estimate = cost(statistics, statement, values, plan.way);
            lastRun.origin = plan.number == NOT_FOUND ? MADE_NOT_KEPT : MADE_AND_KEPT;
            return plan;
        }

        private void use(Plan plan, Statement statement, int[] values) {
            plan.uses++;
            plan.lastUse = runs;
            lastRun.plan = plan.number;
            lastRun.way = plan.way;
            lastRun.estimate = plan.estimate;
            lastRun.cost = cost(table.sums, statement, values, plan.way);
            lastRun.surprise = lastRun.cost > at(settings, TIMES) * plan.estimate;
            if (lastRun.surprise) {
                surprise(plan);
            }
        }

        private void surprise(Plan plan) {
            surprises++;
            plan.surprises++;
            if (plan.surprises >= at(settings, SURPRISES)) {
                shelf.throwAway(shelf.placeOf(plan.number));
            }
        }

        void takeFrom(State other) {
            table.takeFrom(other.table);
            statistics.takeFrom(other.statistics);
            for (int number = 0; number < statements.length; number++) {
                statementAt(number).takeFrom(other.statementAt(number));
            }
            shelf.takeFrom(other.shelf);
            lastRun.takeFrom(other.lastRun);
            copy(other.settings, settings);
            indexes = other.indexes;
            statementCount = other.statementCount;
            runs = other.runs;
            hits = other.hits;
            surprises = other.surprises;
        }
    }

    /** The states before the latest changes, the oldest first; the objects are made once and used again. */
    private static final class History {
        private final State[] states = new State[MOST_STATES];
        private int kept;

        History() {
            for (int place = 0; place < states.length; place++) {
                states[place] = new State();
            }
        }

        void push(State state) {
            if (kept >= states.length) {
                forgetOldest();
            }
            if (kept >= 0 && kept < states.length) {
                State free = states[kept];
                if (free != null) {
                    free.takeFrom(state);
                    kept++;
                }
            }
        }

        void popInto(State state) {
            int newest = kept - 1;
            if (newest >= 0 && newest < states.length) {
                State recorded = states[newest];
                if (recorded != null) {
                    state.takeFrom(recorded);
                    kept--;
                }
            }
        }

        private void forgetOldest() {
            for (int place = 1; place < states.length; place++) {
                State oldest = states[place - 1];
                states[place - 1] = states[place];
                states[place] = oldest;
            }
            kept--;
        }
    }
}
