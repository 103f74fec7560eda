import java.util.function.IntUnaryOperator;

/** The sentences of the promises 1 to 7 that name a boundary case, each with a test of its own. */
public final class EdgesOfTablePromisesTest {
    private static final int INVALID = PlanShelves.INVALID_ARGUMENT;
    private static final int NOT_POSSIBLE = PlanShelves.NOT_POSSIBLE;
    private static final int LIMIT = PlanShelves.LIMIT_REACHED;
    private static final int NOT_FOUND = PlanShelves.NOT_FOUND;
    private static final int MIN = Integer.MIN_VALUE;
    private static final int MAX = Integer.MAX_VALUE;
    private static final int[] NO_VALUES = {-1, 32, 64, 256, MIN, MIN + 31, MAX};
    private static final Due due = new Due("EdgesOfTablePromisesTest");

    public static void main(String[] args) {
        emptyTable();
        emptyCache();
        rowBehindAllOthers();
        rowValues();
        rowWeight();
        rowNumber();
        rowInvalid();
        rowLimit();
        dropRowOfANumber();
        dropRowWeight();
        dropRowInvalid();
        indexColumn();
        indexIs();
        indexThrownAway();
        indexInvalid();
        indexSoAlready();
        analyseSize();
        rowOfRow();
        rowOfWhat();
        rowOfInvalid();
        knownColumn();
        knownValue();
        knownSum();
        knownInvalid();
        due.end();
    }

    private static void emptyTable() {
        due.sentence("Promise 1", "`PlanShelves()`: Creates an empty table");
        PlanShelves x = new PlanShelves();
        due.is("count(0)", 0, x.count(0));
        due.is("count(1)", 0, x.count(1));
        due.is("count(2)", 0, x.count(2));
        due.is("count(3)", 0, x.count(3));
        due.is("rowOf(0, 0)", INVALID, x.rowOf(0, 0));
        due.is("dropRow(0)", INVALID, x.dropRow(0));
        due.is("analyse()", 0, x.analyse());
        PlanShelves other = new PlanShelves();
        Due.rows(other, 30, 1, 1);
        due.is("count(0), another object has rows", 0, x.count(0));
        due.is("count(0), a new object after it", 0, new PlanShelves().count(0));
    }

    private static void emptyCache() {
        due.sentence("Promise 1", "and an empty cache.");
        Due.runFirst(Due.six(), 4);
        PlanShelves x = new PlanShelves();
        for (int what = 4; what <= 13; what++) {
            due.is("count(" + what + ")", 0, x.count(what));
        }
        due.list("latest(%)", x::latest, NOT_FOUND, NOT_FOUND, NOT_FOUND, NOT_FOUND, NOT_FOUND, NOT_FOUND, NOT_FOUND, NOT_FOUND);
        due.order(x);
        due.is("statementOf(0, 0)", INVALID, x.statementOf(0, 0));
        due.is("planOf(0, 0)", INVALID, x.planOf(0, 0));
        due.is("undo()", NOT_POSSIBLE, x.undo());
    }

    private static void rowBehindAllOthers() {
        due.sentence("Promise 2", "Adds a row, behind all others.");
        PlanShelves x = new PlanShelves();
        x.row(3, 3, 3, 3, 3);
        x.row(1, 1, 1, 1, 1);
        x.row(2, 2, 2, 2, 2);
        due.list("rowOf(%, 0)", row -> x.rowOf(row, 0), 3, 1, 2);
        x.dropRow(0);
        x.row(3, 3, 3, 3, 3);
        due.list("rowOf(%, 4)", row -> x.rowOf(row, 4), 1, 2, 3);
        x.row(1, 1, 1, 1, 1);
        due.list("rowOf(%, 4), one is there twice", row -> x.rowOf(row, 4), 1, 2, 3, 1);
    }

    private static void rowValues() {
        PlanShelves x = new PlanShelves();
        rowValue("`a`: 0 to 31", x, 0, a -> x.row(a, 5, 5, 5, 1));
        rowValue("`b`: 0 to 31", x, 1, b -> x.row(5, b, 5, 5, 1));
        rowValue("`c`: 0 to 31", x, 2, c -> x.row(5, 5, c, 5, 1));
        rowValue("`d`: 0 to 31", x, 3, d -> x.row(5, 5, 5, d, 1));
    }

    private static void rowValue(String words, PlanShelves x, int column, IntUnaryOperator row) {
        due.sentence("Promise 2", words);
        int rows = x.count(0);
        due.is("row with the least", rows, row.applyAsInt(0));
        due.is("row with the most", rows + 1, row.applyAsInt(31));
        due.each("row with %", INVALID, row, NO_VALUES);
        due.is("its value", 0, x.rowOf(rows, column));
        due.is("its value", 31, x.rowOf(rows + 1, column));
        due.is("rowOf behind them", INVALID, x.rowOf(rows + 2, column));
    }

    private static void rowWeight() {
        due.sentence("Promise 2", "`weight`: 1 to 999");
        PlanShelves x = new PlanShelves();
        due.each("row of the weight %", INVALID, weight -> x.row(0, 0, 0, 0, weight), 0, -1, 1000, MIN, MIN + 1, MAX);
        due.is("row of the weight 1", 0, x.row(0, 0, 0, 0, 1));
        due.is("row of the weight 999", 1, x.row(0, 0, 0, 0, 999));
        due.is("rowOf(0, 4)", 1, x.rowOf(0, 4));
        due.is("rowOf(1, 4)", 999, x.rowOf(1, 4));
    }

    private static void rowNumber() {
        due.sentence("Promise 2", "Returns its number;");
        PlanShelves x = new PlanShelves();
        due.is("row, the table is empty", 0, x.row(9, 9, 9, 9, 9));
        due.is("row", 1, x.row(9, 9, 9, 9, 9));
        x.dropRow(0);
        due.is("row, one is dropped", 1, x.row(9, 9, 9, 9, 9));
        x.dropRow(1);
        x.dropRow(0);
        due.is("row, the table is empty again", 0, x.row(9, 9, 9, 9, 9));
        x.undo();
        due.is("row, the one before is undone", 0, x.row(9, 9, 9, 9, 9));
        Due.rows(x, 28, 9, 9);
        due.is("row, the last one", 29, x.row(9, 9, 9, 9, 9));
    }

    private static void rowInvalid() {
        due.sentence("Promise 2", "INVALID_ARGUMENT if an argument is out of range");
        PlanShelves x = new PlanShelves();
        due.is("all too small", INVALID, x.row(-1, -1, -1, -1, 0));
        due.is("all too large", INVALID, x.row(32, 32, 32, 32, 1000));
        due.is("all but the weight", INVALID, x.row(32, -1, MAX, MIN, 1));
        due.is("none but the weight", INVALID, x.row(31, 0, 31, 0, 0));
        due.is("sums that would be right", INVALID, x.row(33, -2, 0, 0, 1));
        due.is("count(0)", 0, x.count(0));
        due.is("count(12)", 0, x.count(12));
    }

    private static void rowLimit() {
        due.sentence("Promise 2", "LIMIT_REACHED if there are 30.");
        PlanShelves x = new PlanShelves();
        Due.rows(x, 29, 7, 1);
        due.is("row, 29 are there", 29, x.row(8, 8, 8, 8, 2));
        due.is("row, 30 are there", LIMIT, x.row(9, 9, 9, 9, 3));
        due.is("row, 30 are there", LIMIT, x.row(0, 0, 0, 0, 1));
        due.is("rowOf(29, 4)", 2, x.rowOf(29, 4));
        due.is("count(1)", 31, x.count(1));
        x.undo();
        due.is("row, the last one is undone", 29, x.row(9, 9, 9, 9, 3));
        due.is("row, 30 are there", LIMIT, x.row(9, 9, 9, 9, 3));
    }

    private static void dropRowOfANumber() {
        due.sentence("Promise 3", "`row`: number of the row");
        PlanShelves x = new PlanShelves();
        for (int weight = 1; weight <= 4; weight++) {
            x.row(0, 0, 0, 0, weight);
        }
        due.is("dropRow(0), the first one", 1, x.dropRow(0));
        due.is("dropRow(2), the last one", 4, x.dropRow(2));
        due.is("dropRow(2), not there any more", INVALID, x.dropRow(2));
        due.is("dropRow(0)", 2, x.dropRow(0));
        due.is("dropRow(0), the only one", 3, x.dropRow(0));
        due.is("dropRow(0), not there any more", INVALID, x.dropRow(0));
    }

    private static void dropRowWeight() {
        due.sentence("Promise 3", "Returns its weight;");
        PlanShelves x = new PlanShelves();
        x.row(31, 31, 31, 31, 1);
        x.row(0, 0, 0, 0, 999);
        due.is("dropRow(1), the highest weight", 999, x.dropRow(1));
        due.is("dropRow(0), the lowest weight", 1, x.dropRow(0));
        due.is("count(1)", 0, x.count(1));
    }

    private static void dropRowInvalid() {
        due.sentence("Promise 3", "INVALID_ARGUMENT if there is no such row.");
        PlanShelves x = new PlanShelves();
        due.each("dropRow(%), empty", INVALID, x::dropRow, 0, -1, 1, MIN, MAX);
        Due.rows(x, 1, 1, 1);
        due.each("dropRow(%), one row", INVALID, x::dropRow, -1, 1, 29, 30, MIN, MAX);
        Due.rows(x, 29, 1, 1);
        due.each("dropRow(%), full", INVALID, x::dropRow, -1, 30, 31, MIN, MAX);
        due.is("count(0)", 30, x.count(0));
        due.is("dropRow(29)", 1, x.dropRow(29));
        due.is("dropRow(29) again", INVALID, x.dropRow(29));
    }

    private static void indexColumn() {
        due.sentence("Promise 4", "`column`: 0 to 3");
        PlanShelves x = new PlanShelves();
        due.each("index(%, 1)", INVALID, column -> x.index(column, 1), -1, 4, 31, 32, 33, MIN, MAX);
        due.is("count(3)", 0, x.count(3));
        due.is("index(0, 1)", 0, x.index(0, 1));
        due.is("count(3)", 1, x.count(3));
        due.is("index(3, 1)", 0, x.index(3, 1));
        due.is("count(3)", 9, x.count(3));
        due.each("index(%, 0)", INVALID, column -> x.index(column, 0), -1, 4, 31, 32, 35, MIN, MAX);
        due.is("count(3)", 9, x.count(3));
    }

    private static void indexIs() {
        due.sentence("Promise 4", "`is`: 1: there is one; 0: there is none");
        PlanShelves x = new PlanShelves();
        due.each("index(2, %), there is none", INVALID, is -> x.index(2, is), -1, 2, 3, MIN, MAX);
        due.is("index(2, 1)", 0, x.index(2, 1));
        due.is("count(3)", 4, x.count(3));
        due.each("index(2, %), there is one", INVALID, is -> x.index(2, is), -1, 2, 3, MIN, MAX);
        due.is("index(2, 0)", 0, x.index(2, 0));
        due.is("count(3)", 0, x.count(3));
    }

    private static void indexThrownAway() {
        due.sentence("Promise 4", "Returns how many plans are thrown away;");
        PlanShelves x = Due.with("a=?", "a>?", "a=?&b=?", "b=?&a=?");
        Due.rows(x, 1, 1, 500);
        x.analyse();
        x.set(4, 8);
        due.is("index(0, 1), a new one", 0, x.index(0, 1));
        due.is("index(0, 0), no plan", 0, x.index(0, 0));
        x.index(0, 1);
        x.run(0, 2, 0, 0, 0);
        x.run(0, 1, 0, 0, 0);
        x.run(1, 1, 0, 0, 0);
        x.run(2, 2, 2, 0, 0);
        x.run(2, 2, 1, 0, 0);
        x.run(3, 2, 2, 0, 0);
        x.run(3, 1, 2, 0, 0);
        due.is("planOf(1, 2), the only one as a whole", 9, x.planOf(1, 2));
        due.is("index(0, 0)", 6, x.index(0, 0));
        due.is("count(5)", 1, x.count(5));
        due.is("count(11)", 6, x.count(11));
        due.is("index(0, 1), nothing comes back", 0, x.index(0, 1));
        due.is("count(5)", 1, x.count(5));
        due.is("index(0, 0), a full cache", 8, eightByAnIndex().index(0, 0));
    }

    /** Each of the eight plans that may be kept goes by the index on the column 0. */
    private static PlanShelves eightByAnIndex() {
        PlanShelves x = Due.with("a=?", "a>?", "a<?&b=?", "b=?&a=?", "a=?&a=?");
        Due.rows(x, 1, 1, 500);
        x.analyse();
        x.set(4, 8);
        x.index(0, 1);
        x.run(0, 2, 0, 0, 0);
        x.run(1, 1, 0, 0, 0);
        x.run(2, 1, 1, 0, 0);
        x.run(2, 1, 2, 0, 0);
        x.run(3, 1, 2, 0, 0);
        x.run(3, 2, 2, 0, 0);
        x.run(4, 2, 2, 0, 0);
        x.run(4, 1, 2, 0, 0);
        return x;
    }

    private static void indexInvalid() {
        due.sentence("Promise 4", "INVALID_ARGUMENT if an argument is out of range");
        PlanShelves x = new PlanShelves();
        due.is("index(4, 2)", INVALID, x.index(4, 2));
        due.is("index(-1, -1)", INVALID, x.index(-1, -1));
        due.is("index(MAX, MIN)", INVALID, x.index(MAX, MIN));
        due.is("index(3, 2)", INVALID, x.index(3, 2));
        due.is("index(4, 1)", INVALID, x.index(4, 1));
        due.is("count(3)", 0, x.count(3));
        due.is("count(12)", 0, x.count(12));
    }

    private static void indexSoAlready() {
        due.sentence("Promise 4", "NOT_POSSIBLE if it is so already.");
        PlanShelves x = new PlanShelves();
        for (int column = 0; column < 4; column++) {
            due.is("index(" + column + ", 0), at first", NOT_POSSIBLE, x.index(column, 0));
            due.is("index(" + column + ", 1)", 0, x.index(column, 1));
            due.is("index(" + column + ", 1) again", NOT_POSSIBLE, x.index(column, 1));
        }
        for (int column = 3; column >= 0; column--) {
            due.is("index(" + column + ", 0)", 0, x.index(column, 0));
            due.is("index(" + column + ", 0) again", NOT_POSSIBLE, x.index(column, 0));
        }
        x.undo();
        due.is("index(0, 1), its drop is undone", NOT_POSSIBLE, x.index(0, 1));
    }

    private static void analyseSize() {
        due.sentence("Promise 5", "Returns the size that they know then.");
        PlanShelves x = new PlanShelves();
        due.is("analyse(), empty", 0, x.analyse());
        Due.rows(x, 1, 5, 1);
        due.is("analyse(), the least", 1, x.analyse());
        Due.rows(x, 29, 31, 999);
        due.is("count(2), before they are taken", 1, x.count(2));
        due.is("analyse(), full", 1 + 29 * 999, x.analyse());
        due.is("count(2)", 1 + 29 * 999, x.count(2));
        for (int row = 0; row < 30; row++) {
            x.dropRow(0);
        }
        due.is("analyse(), empty again", 0, x.analyse());
    }

    private static void rowOfRow() {
        due.sentence("Promise 6", "`row`: number of the row");
        PlanShelves x = new PlanShelves();
        for (int row = 0; row < 30; row++) {
            x.row(row, 0, 0, 30 - row, 900 + row);
        }
        due.is("rowOf(0, 0)", 0, x.rowOf(0, 0));
        due.is("rowOf(0, 3)", 30, x.rowOf(0, 3));
        due.is("rowOf(29, 0)", 29, x.rowOf(29, 0));
        due.is("rowOf(29, 4)", 929, x.rowOf(29, 4));
        due.each("rowOf(%, 0)", INVALID, row -> x.rowOf(row, 0), -1, 30, 31, MIN, MAX);
    }

    private static void rowOfWhat() {
        due.sentence("Promise 6", "`what`: 0 to 3: its value in this column; 4: its weight");
        PlanShelves x = new PlanShelves();
        x.row(31, 0, 31, 0, 999);
        x.row(0, 31, 0, 31, 1);
        due.list("rowOf(0, %)", what -> x.rowOf(0, what), 31, 0, 31, 0, 999, INVALID, INVALID);
        due.list("rowOf(1, %)", what -> x.rowOf(1, what), 0, 31, 0, 31, 1, INVALID, INVALID);
        due.each("rowOf(1, %), not of the row ahead", INVALID, what -> x.rowOf(1, what), -1, -5);
    }

    private static void rowOfInvalid() {
        due.sentence("Promise 6", "INVALID_ARGUMENT if an argument is out of range, or there is no such row.");
        PlanShelves x = new PlanShelves();
        due.each("rowOf(%, 0), empty", INVALID, row -> x.rowOf(row, 0), 0, -1, 1, MIN, MAX);
        Due.rows(x, 2, 3, 3);
        due.each("rowOf(%, 4), two rows", INVALID, row -> x.rowOf(row, 4), -1, 2, 858993460, MIN, MAX);
        due.each("rowOf(0, %)", INVALID, what -> x.rowOf(0, what), -1, 5, 9, MIN, MAX);
        x.dropRow(0);
        due.is("rowOf(1, 0), one is dropped", INVALID, x.rowOf(1, 0));
    }

    private static void knownColumn() {
        due.sentence("Promise 7", "`column`: 0 to 3");
        PlanShelves x = new PlanShelves();
        x.row(31, 31, 31, 31, 9);
        x.row(0, 0, 0, 0, 4);
        x.analyse();
        due.list("known(%, 31)", column -> x.known(column, 31), 9, 9, 9, 9, INVALID);
        due.each("known(%, 31)", INVALID, column -> x.known(column, 31), -1, 4, MIN, MAX);
    }

    private static void knownValue() {
        due.sentence("Promise 7", "`value`: 0 to 31");
        PlanShelves x = new PlanShelves();
        x.row(31, 31, 31, 31, 9);
        x.row(0, 0, 0, 0, 4);
        x.analyse();
        due.list("known(%, 0)", column -> x.known(column, 0), 4, 4, 4, 4);
        due.list("known(%, 30)", column -> x.known(column, 30), 0, 0, 0, 0);
        for (int column = 0; column < 4; column++) {
            int asked = column;
            due.each("known(" + column + ", %), not of the next column", INVALID, value -> x.known(asked, value), NO_VALUES);
        }
    }

    private static void knownSum() {
        due.sentence("Promise 7", "Returns the sum of the weights;");
        PlanShelves x = new PlanShelves();
        x.analyse();
        due.is("known(0, 0), of an empty table", 0, x.known(0, 0));
        Due.rows(x, 29, 0, 999);
        x.row(0, 1, 0, 1, 1);
        x.analyse();
        due.list("known(%, 0), of a full table", column -> x.known(column, 0), 28972, 28971, 28972, 28971);
        due.list("known(%, 1)", column -> x.known(column, 1), 0, 1, 0, 1);
    }

    private static void knownInvalid() {
        due.sentence("Promise 7", "INVALID_ARGUMENT if an argument is out of range.");
        PlanShelves x = new PlanShelves();
        due.is("known(4, 32)", INVALID, x.known(4, 32));
        due.is("known(-1, -1)", INVALID, x.known(-1, -1));
        due.is("known(-1, 32)", INVALID, x.known(-1, 32));
        due.is("known(1, -32)", INVALID, x.known(1, -32));
        due.is("known(MAX, MAX)", INVALID, x.known(MAX, MAX));
        due.is("known(MIN, MIN)", INVALID, x.known(MIN, MIN));
    }
}
