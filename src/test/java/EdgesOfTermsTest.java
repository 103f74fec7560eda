/** The sentences of 'What it is', 'Terms' and 'Settings' that name a boundary case, each with a test of its own. */
public final class EdgesOfTermsTest {
    private static final int INVALID = PlanShelves.INVALID_ARGUMENT;
    private static final int NOT_POSSIBLE = PlanShelves.NOT_POSSIBLE;
    private static final int LIMIT = PlanShelves.LIMIT_REACHED;
    private static final int MIN = Integer.MIN_VALUE;
    private static final int MAX = Integer.MAX_VALUE;
    private static final Due due = new Due("EdgesOfTermsTest");

    public static void main(String[] args) {
        fiveHundredAndTwelveCalls();
        divisionsAreRoundedDown();
        fourColumns();
        thirtyRows();
        valuesOfARow();
        weightsOfARow();
        numbersBehindADroppedRow();
        sizeOfTheTable();
        noIndexAtFirst();
        statisticsOfAnEmptyTableAtFirst();
        statisticsThatWereTakenLast();
        weightsByColumnAndValue();
        settings();
        due.end();
    }

    private static void fiveHundredAndTwelveCalls() {
        due.sentence("What it is", "An object is used for at most 512 calls after it has been made");
        PlanShelves runs = Due.with("a=?");
        for (int call = 6; call <= 511; call++) {
            due.is("run, call " + call, 0, runs.run(0, 0, 0, 0, 0));
        }
        due.is("count(7), call 512", 506, runs.count(7));
        PlanShelves plans = Due.with("a=?");
        plans.set(3, 1);
        plans.row(1, 1, 1, 1, 1);
        for (int call = 8; call <= 511; call++) {
            plans.run(0, 1, 0, 0, 0);
        }
        due.is("latest(1), call 512: each run made a plan", 503, plans.latest(1));
        PlanShelves changes = new PlanShelves();
        for (int call = 1; call <= 510; call += 2) {
            due.is("row, call " + call, 0, changes.row(1, 1, 1, 1, 999));
            due.is("dropRow, call " + (call + 1), 999, changes.dropRow(0));
        }
        changes.row(7, 7, 7, 7, 7);
        due.is("undo(), call 512", 3, changes.undo());
        PlanShelves texts = new PlanShelves();
        for (int call = 1; call <= 511; call++) {
            due.is("type, call " + call, call <= 30 ? call : LIMIT, texts.type('a'));
        }
        due.is("clearText(), call 512", 30, texts.clearText());
    }

    private static void divisionsAreRoundedDown() {
        due.sentence("Terms", "divisions are rounded down (all divided numbers are at least 0)");
        PlanShelves x = Due.with("a=?");
        x.row(0, 0, 0, 0, 50);
        x.row(1, 0, 0, 0, 300);
        x.row(2, 0, 0, 0, 650);
        x.row(3, 0, 0, 0, 1);
        x.analyse();
        due.is("50 of 1001 is 49, below 50", 0, x.classOf(0, 0, 0, 0, 0));
        due.is("300 of 1001 is 299, below 300", 1, x.classOf(0, 1, 0, 0, 0));
        x.set(0, 1);
        due.is("1 of 1001 is 0, below 1", 0, x.classOf(0, 3, 0, 0, 0));
        x.set(0, 49);
        due.is("50 of 1001 is not below 49", 1, x.classOf(0, 0, 0, 0, 0));
    }

    private static void fourColumns() {
        due.sentence("Terms", "A table has 4 columns, 0 to 3, also told as a to d.");
        PlanShelves x = Due.with("a=?&b=?&c=?&d=?");
        due.list("the column of the letter %", k -> x.statementOf(0, 10 + k), 0, 1, 2, 3);
        due.each("known(%, 0)", 0, column -> x.known(column, 0), 0, 3);
        due.each("known(%, 0)", INVALID, column -> x.known(column, 0), -1, 4, MIN, MAX);
        due.is("e=?", NOT_POSSIBLE, Due.statement(x, "e=?"));
        due.is("the sign ahead of a", NOT_POSSIBLE, Due.statement(x, "`=?"));
    }

    private static void thirtyRows() {
        due.sentence("Terms", "It has at most 30 rows, numbered from 0;");
        PlanShelves x = new PlanShelves();
        for (int number = 0; number < 30; number++) {
            due.is("row", number, x.row(number, 0, 0, 0, 1));
        }
        due.is("a row too many", LIMIT, x.row(30, 0, 0, 0, 1));
        due.is("count(0)", 30, x.count(0));
        due.is("rowOf(0, 0)", 0, x.rowOf(0, 0));
        due.is("rowOf(29, 0)", 29, x.rowOf(29, 0));
        due.each("rowOf(%, 0)", INVALID, row -> x.rowOf(row, 0), -1, 30);
        x.dropRow(0);
        due.is("one in the place that is free", 29, x.row(30, 0, 0, 0, 1));
        due.is("one too many again", LIMIT, x.row(31, 0, 0, 0, 1));
    }

    private static void valuesOfARow() {
        due.sentence("Terms", "a row has a value (0 to 31) for each column");
        PlanShelves x = new PlanShelves();
        x.row(0, 31, 0, 31, 1);
        x.row(31, 0, 31, 0, 1);
        due.list("rowOf(0, %)", what -> x.rowOf(0, what), 0, 31, 0, 31);
        due.list("rowOf(1, %)", what -> x.rowOf(1, what), 31, 0, 31, 0);
        due.each("row of %", INVALID, a -> x.row(a, a, a, a, 1), -1, 32);
        due.is("count(0)", 2, x.count(0));
    }

    private static void weightsOfARow() {
        due.sentence("Terms", "and a weight (1 to 999): how many times it is there");
        PlanShelves x = Due.with("a=?");
        due.is("row of the weight 1", 0, x.row(5, 0, 0, 0, 1));
        due.is("row of the weight 999", 1, x.row(5, 0, 0, 0, 999));
        due.each("row of the weight %", INVALID, weight -> x.row(5, 0, 0, 0, weight), 0, 1000);
        due.is("run, both are there", 1000, x.run(0, 5, 0, 0, 0));
    }

    private static void numbersBehindADroppedRow() {
        due.sentence("Terms", "If a row is dropped, those behind it have numbers that are less by 1.");
        PlanShelves x = new PlanShelves();
        for (int number = 0; number < 30; number++) {
            x.row(number, number, number, number, 100 + number);
        }
        x.dropRow(29);
        due.each("rowOf(%, 0), the last one dropped", INVALID, row -> x.rowOf(row, 0), 29);
        due.is("rowOf(28, 4)", 128, x.rowOf(28, 4));
        x.row(29, 29, 29, 29, 129);
        x.dropRow(0);
        for (int number = 0; number < 29; number++) {
            due.is("rowOf(" + number + ", 3), the first one dropped", number + 1, x.rowOf(number, 3));
        }
        due.is("rowOf(28, 4)", 129, x.rowOf(28, 4));
        due.is("rowOf(29, 4)", INVALID, x.rowOf(29, 4));
        x.dropRow(10);
        due.is("rowOf(9, 0), ahead of the dropped one", 10, x.rowOf(9, 0));
        due.is("rowOf(10, 0), behind it", 12, x.rowOf(10, 0));
        due.is("rowOf(27, 0)", 29, x.rowOf(27, 0));
        due.is("rowOf(28, 0)", INVALID, x.rowOf(28, 0));
    }

    private static void sizeOfTheTable() {
        due.sentence("Terms", "The size of the table is the sum of all weights.");
        PlanShelves x = new PlanShelves();
        due.is("count(1), empty", 0, x.count(1));
        Due.rows(x, 30, 31, 999);
        due.is("count(1), full", 29970, x.count(1));
        x.row(31, 31, 31, 31, 999);
        due.is("count(1), after a row that is refused", 29970, x.count(1));
        for (int left = 29; left >= 0; left--) {
            x.dropRow(0);
            due.is("count(1), of " + left, 999 * left, x.count(1));
        }
    }

    private static void noIndexAtFirst() {
        due.sentence("Terms", "A column has an index or not (not at first).");
        PlanShelves x = new PlanShelves();
        due.is("count(3)", 0, x.count(3));
        due.each("index(%, 0)", NOT_POSSIBLE, column -> x.index(column, 0), 0, 1, 2, 3);
        due.each("index(%, 1)", 0, column -> x.index(column, 1), 0, 1, 2, 3);
        due.is("count(3)", 15, x.count(3));
    }

    private static void statisticsOfAnEmptyTableAtFirst() {
        due.sentence("Terms", "what was known of the table when they were taken last (an empty table at first)");
        PlanShelves x = new PlanShelves();
        Due.rows(x, 2, 0, 5);
        Due.rows(x, 2, 31, 5);
        due.is("count(2), not taken yet", 0, x.count(2));
        for (int column = 0; column < 4; column++) {
            int asked = column;
            due.each("known(" + column + ", %)", 0, value -> x.known(asked, value), 0, 15, 31);
        }
    }

    private static void statisticsThatWereTakenLast() {
        due.sentence("Terms", "Statistics are what was known of the table when they were taken last");
        PlanShelves x = new PlanShelves();
        Due.rows(x, 1, 4, 50);
        x.analyse();
        x.dropRow(0);
        due.is("known(2, 4), of a table that is empty now", 50, x.known(2, 4));
        due.is("count(2)", 50, x.count(2));
        x.analyse();
        due.is("known(2, 4), taken of the empty table", 0, x.known(2, 4));
        due.is("count(2)", 0, x.count(2));
        Due.rows(x, 1, 4, 7);
        due.is("known(2, 4), of a table that is not empty any more", 0, x.known(2, 4));
    }

    private static void weightsByColumnAndValue() {
        due.sentence("Terms", "for each column and value the sum of the weights of rows with this value, and the size");
        PlanShelves x = new PlanShelves();
        x.row(0, 31, 0, 31, 1);
        x.row(31, 0, 31, 0, 20);
        x.row(0, 0, 31, 31, 300);
        x.analyse();
        due.list("known(%, 0)", column -> x.known(column, 0), 301, 320, 1, 20);
        due.list("known(%, 31)", column -> x.known(column, 31), 20, 1, 320, 301);
        due.list("known(%, 30)", column -> x.known(column, 30), 0, 0, 0, 0);
        due.list("known(%, 1)", column -> x.known(column, 1), 0, 0, 0, 0);
        due.is("count(2)", 321, x.count(2));
        PlanShelves full = new PlanShelves();
        Due.rows(full, 30, 31, 999);
        full.analyse();
        due.list("known(%, 31), full", column -> full.known(column, 31), 29970, 29970, 29970, 29970);
        due.is("count(2), full", 29970, full.count(2));
    }

    private static void settings() {
        setting(0, "0 the bound of class 0 (0 to 1000; 50)", 0, 1000, 50);
        setting(1, "1 the bound of class 1 (0 to 1000; 300)", 0, 1000, 300);
        setting(2, "2 how many times (1 to 99; 4)", 1, 99, 4);
        setting(3, "3 surprises (1 to 9; 2)", 1, 9, 2);
        setting(4, "4 plans that are kept (1 to 8; 4)", 1, 8, 4);
    }

    private static void setting(int what, String words, int least, int most, int first) {
        due.sentence("Settings", words);
        PlanShelves x = new PlanShelves();
        due.is("count(" + (20 + what) + "), a new object", first, x.count(20 + what));
        due.each("set(" + what + ", %)", INVALID, value -> x.set(what, value), least - 1, most + 1, MIN, MAX);
        due.is("count(" + (20 + what) + "), refused", first, x.count(20 + what));
        due.is("set(" + what + ", " + least + ")", first, x.set(what, least));
        due.is("count(" + (20 + what) + ")", least, x.count(20 + what));
        due.is("set(" + what + ", " + most + ")", least, x.set(what, most));
        due.is("count(" + (20 + what) + ")", most, x.count(20 + what));
        for (int other = 0; other <= 4; other++) {
            if (other != what) {
                due.is("count(" + (20 + other) + "), another one", new PlanShelves().count(20 + other), x.count(20 + other));
            }
        }
    }
}
