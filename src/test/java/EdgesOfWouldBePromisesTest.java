import java.util.function.IntUnaryOperator;

/** The sentences of the promises 19 to 22 that name a boundary case, each with a test of its own. */
public final class EdgesOfWouldBePromisesTest {
    private static final int INVALID = PlanShelves.INVALID_ARGUMENT;
    private static final int NOT_POSSIBLE = PlanShelves.NOT_POSSIBLE;
    private static final int NOT_FOUND = PlanShelves.NOT_FOUND;
    private static final int WHOLE = 9;
    private static final int MIN = Integer.MIN_VALUE;
    private static final int MAX = Integer.MAX_VALUE;
    private static final int[] NO_VALUES = {-1, 32, 33, 64, MIN, MIN + 1, MAX};
    private static final Due due = new Due("EdgesOfWouldBePromisesTest");

    public static void main(String[] args) {
        classOfStatement();
        classOfValues();
        classOfClass();
        classOfInvalid();
        wayStatement();
        wayValues();
        wayMadeNow();
        wayWhole();
        wayInvalid();
        bestCostWithTheRowsAsTheyAreNow();
        bestCostWithTheIndexesAsTheyAreNow();
        bestCostOfTheLatestRun();
        bestCostWithoutARun();
        undoLatestState();
        undoRemovesIt();
        undoHowManyAreLeft();
        undoEmpty();
        due.end();
    }

    private static void classOfStatement() {
        due.sentence("Promise 19", "`statement`: number of the statement");
        PlanShelves x = Due.six();
        Due.rows(x, 1, 1, 1);
        x.analyse();
        due.list("classOf(%, 1, 0, 0, 0)", statement -> x.classOf(statement, 1, 0, 0, 0), 2, 2, 2, 2, 0, 0, INVALID);
        due.each("classOf(%, 1, 0, 0, 0)", INVALID, statement -> x.classOf(statement, 1, 0, 0, 0), -1, 6, 7, MIN, MAX);
        PlanShelves none = new PlanShelves();
        due.each("classOf(%, 0, 0, 0, 0), none", INVALID, statement -> none.classOf(statement, 0, 0, 0, 0), 0, -1, MIN, MAX);
    }

    /** Half of the rows have 0 in each column, half 31: the share of these is 500, that of others 0. */
    private static PlanShelves half() {
        PlanShelves x = Due.with("a=?&b=?&c=?&d=?", "a=?", "b=?&a=?");
        Due.rows(x, 1, 0, 500);
        Due.rows(x, 1, 31, 500);
        x.analyse();
        return x;
    }

    private static void classOfValues() {
        PlanShelves x = half();
        classOfValue("`v0`: 0 to 31", 1, v0 -> x.classOf(0, v0, 9, 9, 9));
        classOfValue("`v1`: 0 to 31", 3, v1 -> x.classOf(0, 9, v1, 9, 9));
        classOfValue("`v2`: 0 to 31", 9, v2 -> x.classOf(0, 9, 9, v2, 9));
        classOfValue("`v3`: 0 to 31", 27, v3 -> x.classOf(0, 9, 9, 9, v3));
    }

    private static void classOfValue(String words, int worth, IntUnaryOperator classOf) {
        due.sentence("Promise 19", words);
        due.each("classOf with %", 2 * worth, classOf, 0, 31);
        due.each("classOf with %", 0, classOf, 1, 30);
        due.each("classOf with %", INVALID, classOf, NO_VALUES);
    }

    private static void classOfClass() {
        due.sentence("Promise 19", "Returns the class;");
        PlanShelves x = half();
        due.is("the highest", 80, x.classOf(0, 0, 31, 0, 31));
        due.is("the least", 0, x.classOf(0, 1, 30, 1, 30));
        due.is("the highest of one condition", 2, x.classOf(1, 31, 0, 0, 0));
        due.is("the highest of two conditions", 8, x.classOf(2, 31, 0, 0, 0));
        x.set(1, 501);
        due.is("each digit is 1", 1 + 3 + 9 + 27, x.classOf(0, 0, 31, 0, 31));
        due.is("count(7), it is no run", 0, x.count(7));
    }

    private static void classOfInvalid() {
        due.sentence("Promise 19", "INVALID_ARGUMENT if an argument is out of range.");
        PlanShelves x = half();
        due.is("classOf(0, 32, 32, 32, 32)", INVALID, x.classOf(0, 32, 32, 32, 32));
        due.is("classOf(3, 0, 0, 0, 0)", INVALID, x.classOf(3, 0, 0, 0, 0));
        due.is("classOf(3, -1, 0, 0, 0)", INVALID, x.classOf(3, -1, 0, 0, 0));
        due.is("classOf(1, 0, 1, 0, 0)", INVALID, x.classOf(1, 0, 1, 0, 0));
        due.is("classOf(2, 0, 0, 1, 0)", INVALID, x.classOf(2, 0, 0, 1, 0));
        due.is("classOf(2, 0, 0, 0, 1)", INVALID, x.classOf(2, 0, 0, 0, 1));
    }

    private static void wayStatement() {
        due.sentence("Promise 20", "`statement`: number of the statement");
        PlanShelves x = Due.six();
        Due.rows(x, 1, 1, 100);
        x.analyse();
        x.index(0, 1);
        due.list("way(%, 0, 0, 0, 0)", statement -> x.way(statement, 0, 0, 0, 0), 0, WHOLE, WHOLE, WHOLE, 0, WHOLE, INVALID);
        due.each("way(%, 0, 0, 0, 0)", INVALID, statement -> x.way(statement, 0, 0, 0, 0), -1, 6, 7, MIN, MAX);
        PlanShelves none = new PlanShelves();
        due.each("way(%, 0, 0, 0, 0), none", INVALID, statement -> none.way(statement, 0, 0, 0, 0), 0, -1, MIN, MAX);
    }

    private static void wayValues() {
        PlanShelves x = half();
        due.each("index(%, 1)", 0, column -> x.index(column, 1), 0, 1, 2, 3);
        wayValue("`v0`: 0 to 31", 0, v0 -> x.way(0, v0, 0, 31, 0));
        wayValue("`v1`: 0 to 31", 1, v1 -> x.way(0, 31, v1, 31, 0));
        wayValue("`v2`: 0 to 31", 2, v2 -> x.way(0, 31, 0, v2, 0));
        wayValue("`v3`: 0 to 31", 3, v3 -> x.way(0, 31, 0, 31, v3));
    }

    /** By the others each costs 510; with 0 and 31 this one too, so that the lowest number goes; with others 10. */
    private static void wayValue(String words, int k, IntUnaryOperator way) {
        due.sentence("Promise 20", words);
        due.each("way with %", 0, way, 0, 31);
        due.each("way with %", k, way, 1, 30);
        due.each("way with %", INVALID, way, NO_VALUES);
    }

    private static void wayMadeNow() {
        due.sentence("Promise 20", "Returns the way that a plan would go if it was made now for a statement with values.");
        PlanShelves x = Due.with("a=?");
        x.set(3, 9);
        Due.rows(x, 1, 1, 100);
        x.index(0, 1);
        due.is("nothing known", WHOLE, x.way(0, 0, 0, 0, 0));
        x.run(0, 0, 0, 0, 0);
        x.analyse();
        due.is("known now", 0, x.way(0, 0, 0, 0, 0));
        x.run(0, 0, 0, 0, 0);
        due.is("latest(2), the plan was made ahead of it", WHOLE, x.latest(2));
        due.is("with a plan that goes another way", 0, x.way(0, 0, 0, 0, 0));
        x.index(0, 0);
        due.is("the index is dropped", WHOLE, x.way(0, 0, 0, 0, 0));
        due.is("count(7), it is no run", 2, x.count(7));
        due.is("count(5), it makes no plan", 1, x.count(5));
    }

    private static void wayWhole() {
        due.sentence("Promise 20", "Returns the condition, 9: as a whole;");
        PlanShelves x = Due.with("a=?&b=?&c=?&d=?");
        due.each("index(%, 1)", 0, column -> x.index(column, 1), 0, 1, 2, 3);
        due.is("an empty table", WHOLE, x.way(0, 0, 0, 0, 0));
        Due.rows(x, 1, 1, 9);
        x.analyse();
        due.is("10 by each, as a whole 9", WHOLE, x.way(0, 0, 0, 0, 0));
        Due.rows(x, 1, 1, 1);
        x.analyse();
        due.is("10 by each, as a whole 10", 0, x.way(0, 0, 0, 0, 0));
        due.is("20, 20, 20, 10, as a whole 10", 3, x.way(0, 1, 1, 1, 0));
        due.is("20 by each, as a whole 10", WHOLE, x.way(0, 1, 1, 1, 1));
    }

    private static void wayInvalid() {
        due.sentence("Promise 20", "INVALID_ARGUMENT if an argument is out of range.");
        PlanShelves x = half();
        due.is("way(0, 32, 32, 32, 32)", INVALID, x.way(0, 32, 32, 32, 32));
        due.is("way(3, 0, 0, 0, 0)", INVALID, x.way(3, 0, 0, 0, 0));
        due.is("way(-1, 32, 0, 0, 0)", INVALID, x.way(-1, 32, 0, 0, 0));
        due.is("way(1, 0, 1, 0, 0)", INVALID, x.way(1, 0, 1, 0, 0));
        due.is("way(2, 0, 0, 1, 0)", INVALID, x.way(2, 0, 0, 1, 0));
        due.is("way(2, 0, 0, 0, -1)", INVALID, x.way(2, 0, 0, 0, -1));
    }

    private static void bestCostWithTheRowsAsTheyAreNow() {
        due.sentence("Promise 21", "Tells what the latest run would cost truly by the best way, with the rows");
        PlanShelves x = Due.with("a=?&b=?");
        x.index(0, 1);
        x.index(1, 1);
        x.run(0, 1, 2, 0, 0);
        due.is("an empty table", 0, x.bestCost());
        x.row(1, 0, 0, 0, 9);
        due.is("19, 10, as a whole 9", 9, x.bestCost());
        x.row(0, 0, 0, 0, 1);
        due.is("19, 10, as a whole 10", 10, x.bestCost());
        x.row(1, 2, 0, 0, 5);
        due.is("24, 15, as a whole 15", 15, x.bestCost());
        x.row(0, 2, 0, 0, 900);
        due.is("24, 915, as a whole 915", 24, x.bestCost());
        Due.rows(x, 26, 1, 999);
        due.is("25998, 915, as a whole 26889 behind a full table", 915, x.bestCost());
        due.is("count(0)", 30, x.count(0));
        due.is("latest(4), what it did cost", 0, x.latest(4));
    }

    private static void bestCostWithTheIndexesAsTheyAreNow() {
        due.sentence("Promise 21", "with the rows and indexes as they are now");
        PlanShelves x = Due.with("a=?&b=?&c=?&d=?");
        x.row(1, 1, 1, 1, 100);
        x.row(1, 1, 1, 0, 50);
        x.row(1, 1, 0, 0, 20);
        x.row(1, 0, 0, 0, 10);
        x.run(0, 1, 1, 1, 1);
        due.is("no index", 180, x.bestCost());
        x.index(0, 1);
        due.is("190 by the index", 180, x.bestCost());
        x.index(1, 1);
        due.is("180 by the index", 180, x.bestCost());
        x.index(2, 1);
        due.is("160 by the index", 160, x.bestCost());
        x.index(3, 1);
        due.is("110 by the index", 110, x.bestCost());
        x.index(3, 0);
        due.is("it is dropped", 160, x.bestCost());
        x.undo();
        due.is("its drop is undone", 110, x.bestCost());
        x.analyse();
        due.is("known or not", 110, x.bestCost());
    }

    private static void bestCostOfTheLatestRun() {
        due.sentence("Promise 21", "what the latest run would cost truly");
        PlanShelves x = Due.with("a=?", "b=?");
        x.index(0, 1);
        x.index(1, 1);
        x.row(1, 2, 0, 0, 100);
        x.row(2, 1, 0, 0, 300);
        x.run(0, 1, 0, 0, 0);
        due.is("a=1", 110, x.bestCost());
        x.run(1, 1, 0, 0, 0);
        due.is("b=1", 310, x.bestCost());
        x.run(1, 32, 0, 0, 0);
        due.is("a run that is refused", 310, x.bestCost());
        x.run(1, 31, 0, 0, 0);
        due.is("b=31", 10, x.bestCost());
        x.way(0, 1, 0, 0, 0);
        x.classOf(0, 1, 0, 0, 0);
        due.is("questions are no runs", 10, x.bestCost());
        x.undo();
        due.is("the last run is undone", 310, x.bestCost());
        x.set(4, 1);
        x.pin(1, 1);
        x.drop(0);
        x.run(0, 2, 0, 0, 0);
        due.is("latest(5), not kept", 2, x.latest(5));
        due.is("a=2", 310, x.bestCost());
    }

    private static void bestCostWithoutARun() {
        due.sentence("Promise 21", "NOT_FOUND if there was no run.");
        PlanShelves x = Due.with("a=?");
        due.is("bestCost()", NOT_FOUND, x.bestCost());
        Due.rows(x, 1, 1, 1);
        x.index(0, 1);
        x.way(0, 1, 0, 0, 0);
        x.run(0, -1, 0, 0, 0);
        due.is("bestCost(), a run that is refused", NOT_FOUND, x.bestCost());
        x.run(0, 1, 0, 0, 0);
        due.is("bestCost()", 1, x.bestCost());
        x.undo();
        due.is("bestCost(), the only run is undone", NOT_FOUND, x.bestCost());
    }

    private static void undoLatestState() {
        due.sentence("Promise 22", "Restores the latest state of the history");
        PlanShelves x = new PlanShelves();
        for (int weight = 1; weight <= 9; weight++) {
            x.row(weight, 0, 0, 0, weight);
        }
        for (int undone = 1; undone <= 4; undone++) {
            x.undo();
            due.is("count(0)", 9 - undone, x.count(0));
            due.is("rowOf the last one", 9 - undone, x.rowOf(8 - undone, 4));
        }
        x.undo();
        due.is("count(0), nothing to undo", 5, x.count(0));
        x.dropRow(0);
        x.undo();
        due.is("rowOf(0, 4)", 1, x.rowOf(0, 4));
        due.is("count(1)", 15, x.count(1));
    }

    private static void undoRemovesIt() {
        due.sentence("Promise 22", "the latest state of the history, which is removed from it");
        PlanShelves x = new PlanShelves();
        x.set(0, 1);
        x.set(0, 2);
        due.is("undo()", 1, x.undo());
        due.is("count(20)", 1, x.count(20));
        x.set(0, 3);
        due.is("count(12)", 2, x.count(12));
        due.is("undo()", 1, x.undo());
        due.is("count(20), not 2", 1, x.count(20));
        due.is("undo()", 0, x.undo());
        due.is("count(20)", 50, x.count(20));
        due.is("undo(), it is no change", NOT_POSSIBLE, x.undo());
    }

    private static void undoHowManyAreLeft() {
        due.sentence("Promise 22", "Returns the number of states that are left in the history;");
        for (int changes = 1; changes <= 6; changes++) {
            PlanShelves x = new PlanShelves();
            for (int change = 0; change < changes; change++) {
                x.analyse();
            }
            for (int left = Math.min(changes, 4) - 1; left >= 0; left--) {
                due.is("undo(), " + changes + " changes", left, x.undo());
                due.is("count(12)", left, x.count(12));
            }
            due.is("undo(), " + changes + " changes", NOT_POSSIBLE, x.undo());
        }
    }

    private static void undoEmpty() {
        due.sentence("Promise 22", "NOT_POSSIBLE if it is empty.");
        PlanShelves x = new PlanShelves();
        due.is("undo(), new", NOT_POSSIBLE, x.undo());
        Due.type(x, "a=?");
        due.is("undo(), a text is no change", NOT_POSSIBLE, x.undo());
        x.row(0, 0, 0, 0, 1000);
        due.is("undo(), what is refused is no change", NOT_POSSIBLE, x.undo());
        x.statement();
        due.is("undo()", 0, x.undo());
        due.is("undo(), twice", NOT_POSSIBLE, x.undo());
        due.is("count(4)", 0, x.count(4));
        due.is("count(13), the text stays", 3, x.count(13));
    }
}
