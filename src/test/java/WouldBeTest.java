import java.util.Arrays;

/** Promises 19 to 22: classes, ways and costs that would be, and undo. */
public final class WouldBeTest {
    private static final int INVALID = PlanShelves.INVALID_ARGUMENT;
    private static final int NOT_FOUND = PlanShelves.NOT_FOUND;
    private static final int NOT_POSSIBLE = PlanShelves.NOT_POSSIBLE;
    private static final Due due = new Due("WouldBeTest");

    public static void main(String[] args) {
        classOf();
        classOfBounds();
        classOfDigits();
        classAndWayArguments();
        way();
        wayTies();
        bestCost();
        undo();
        undoOfEachChange();
        undoOfEverything();
        errorsRecordNothing();
        due.end();
    }

    private static void classOf() {
        due.promise(19, "classOf");
        PlanShelves x = Due.with("a=?", "a<?", "a>?");
        due.is("no statistics", 0, x.classOf(0, 1, 0, 0, 0));
        x.row(0, 0, 0, 0, 50);
        x.row(1, 0, 0, 0, 250);
        x.row(2, 0, 0, 0, 300);
        x.row(3, 0, 0, 0, 400);
        due.is("statistics that are old", 0, x.classOf(0, 3, 0, 0, 0));
        x.analyse();
        due.is("share 50 is not below 50", 1, x.classOf(0, 0, 0, 0, 0));
        due.is("share 250", 1, x.classOf(0, 1, 0, 0, 0));
        due.is("share 300 is not below 300", 2, x.classOf(0, 2, 0, 0, 0));
        due.is("share 400", 2, x.classOf(0, 3, 0, 0, 0));
        due.is("share 0", 0, x.classOf(0, 4, 0, 0, 0));
        due.is("a<0", 0, x.classOf(1, 0, 0, 0, 0));
        due.is("a<1", 1, x.classOf(1, 1, 0, 0, 0));
        due.is("a<2, share 300", 2, x.classOf(1, 2, 0, 0, 0));
        due.is("a>3", 0, x.classOf(2, 3, 0, 0, 0));
        due.is("a>2", 2, x.classOf(2, 2, 0, 0, 0));
        x.row(4, 0, 0, 0, 1);
        x.analyse();
        due.is("50 of 1001 is 49", 0, x.classOf(0, 0, 0, 0, 0));
        due.is("300 of 1001 is 299", 1, x.classOf(0, 2, 0, 0, 0));
        x.dropRow(4);
        due.is("the statistics stay", 0, x.classOf(0, 0, 0, 0, 0));
        due.is("count(7), it is no run", 0, x.count(7));
        due.is("count(5)", 0, x.count(5));
    }

    private static void classOfBounds() {
        due.promise(19, "classOf, settings 0 and 1");
        PlanShelves x = Due.with("a=?");
        x.set(0, 0);
        due.is("share 0 is not below 0", 1, x.classOf(0, 0, 0, 0, 0));
        x.set(1, 0);
        due.is("nor is it below setting 1", 2, x.classOf(0, 0, 0, 0, 0));
        x.set(0, 1);
        due.is("share 0 is below 1", 0, x.classOf(0, 0, 0, 0, 0));
        x.row(0, 0, 0, 0, 30);
        x.row(1, 0, 0, 0, 70);
        x.analyse();
        x.set(0, 301);
        x.set(1, 200);
        due.is("300 is below 301", 0, x.classOf(0, 0, 0, 0, 0));
        due.is("700", 2, x.classOf(0, 1, 0, 0, 0));
        x.set(0, 300);
        due.is("no class is 1", 2, x.classOf(0, 0, 0, 0, 0));
        x.dropRow(0);
        x.analyse();
        x.set(0, 1000);
        x.set(1, 1000);
        due.is("share 1000 is not below 1000", 2, x.classOf(0, 1, 0, 0, 0));
    }

    private static void classOfDigits() {
        due.promise(19, "classOf, digits");
        PlanShelves x = Due.with("a=?&b=?&c=?&d=?");
        x.row(0, 0, 0, 0, 700);
        x.row(1, 1, 1, 1, 200);
        x.row(2, 2, 2, 2, 100);
        x.analyse();
        due.is("all 2", 80, x.classOf(0, 0, 0, 0, 0));
        due.is("the first 2", 2, x.classOf(0, 0, 9, 9, 9));
        due.is("the second 2", 6, x.classOf(0, 9, 0, 9, 9));
        due.is("the third 2", 18, x.classOf(0, 9, 9, 0, 9));
        due.is("the fourth 2", 54, x.classOf(0, 9, 9, 9, 0));
        due.is("1, 0, 2, 1", 1 + 18 + 27, x.classOf(0, 1, 9, 0, 2));
        due.is("none", 0, x.classOf(0, 9, 9, 9, 9));
    }

    private static void classAndWayArguments() {
        PlanShelves x = Due.with("a=?", "a=?&b=?&c=?&d=?");
        int[][] wrong = {
            {2, 0, 0, 0, 0}, {-1, 0, 0, 0, 0}, {Integer.MAX_VALUE, 0, 0, 0, 0}, {Integer.MIN_VALUE, 0, 0, 0, 0},
            {0, 32, 0, 0, 0}, {0, -1, 0, 0, 0}, {0, 0, 1, 0, 0}, {0, 0, 0, 31, 0}, {0, 0, 0, 0, 1}, {0, 0, 0, 0, -1},
            {1, 32, 0, 0, 0}, {1, 0, 32, 0, 0}, {1, 0, 0, 32, 0}, {1, 0, 0, 0, 32}, {1, 0, 0, -1, 0},
            {1, 0, 0, 0, Integer.MAX_VALUE}, {1, 0, Integer.MIN_VALUE, 0, 0}};
        due.promise(19, "classOf, wrong arguments");
        for (int[] w : wrong) {
            due.is("classOf" + Arrays.toString(w), INVALID, x.classOf(w[0], w[1], w[2], w[3], w[4]));
        }
        due.promise(20, "way, wrong arguments");
        for (int[] w : wrong) {
            due.is("way" + Arrays.toString(w), INVALID, x.way(w[0], w[1], w[2], w[3], w[4]));
        }
        due.promise(20, "way, the highest values");
        due.is("classOf(1, 31, 31, 31, 31)", 0, x.classOf(1, 31, 31, 31, 31));
        due.is("way(1, 31, 31, 31, 31)", 9, x.way(1, 31, 31, 31, 31));
    }

    private static void way() {
        due.promise(20, "way");
        PlanShelves x = Due.with("a=?&b<?&a>?");
        x.row(1, 1, 0, 0, 100);
        x.row(2, 2, 0, 0, 300);
        x.row(3, 3, 0, 0, 600);
        x.analyse();
        due.is("no index", 9, x.way(0, 1, 2, 2, 0));
        x.index(1, 1);
        due.is("b<2, 110", 1, x.way(0, 1, 2, 2, 0));
        due.is("b<4, 1010 is more than all", 9, x.way(0, 1, 4, 2, 0));
        x.index(0, 1);
        due.is("a=2: 310, b<3: 410, a>2: 610", 0, x.way(0, 2, 3, 2, 0));
        due.is("a=2: 310, b<2: 110, a>2: 610", 1, x.way(0, 2, 2, 2, 0));
        due.is("a=3: 610, b<3: 410, a>3: 10", 2, x.way(0, 3, 3, 3, 0));
        x.row(9, 0, 0, 0, 999);
        due.is("by the statistics, though the rows are others", 2, x.way(0, 3, 3, 3, 0));
        x.index(0, 0);
        due.is("the index is gone", 1, x.way(0, 3, 3, 3, 0));
        x.run(0, 3, 3, 3, 0);
        x.index(0, 1);
        due.is("way, with another plan kept", 2, x.way(0, 3, 3, 3, 0));
        due.is("planOf(0, 2)", 1, x.planOf(0, 2));
    }

    private static void wayTies() {
        due.promise(20, "way, ties");
        PlanShelves x = Due.with("a=?&b=?", "b=?&a=?", "a=?");
        x.index(0, 1);
        x.index(1, 1);
        due.is("empty statistics: 10 is more than 0", 9, x.way(0, 0, 0, 0, 0));
        x.row(1, 1, 0, 0, 5);
        x.row(2, 2, 0, 0, 5);
        x.row(1, 3, 0, 0, 5);
        x.analyse();
        due.is("15 and 15 and 15 as a whole", 1, x.way(0, 1, 1, 0, 0));
        due.is("a=2 and b=1 cost the same, 15, as much as all", 0, x.way(0, 2, 1, 0, 0));
        due.is("b=1 and a=2", 0, x.way(1, 1, 2, 0, 0));
        due.is("a=2 costs as much as all", 0, x.way(2, 2, 0, 0, 0));
        due.is("a=1: 20", 9, x.way(2, 1, 0, 0, 0));
        x.dropRow(1);
        x.row(2, 2, 0, 0, 4);
        x.analyse();
        due.is("a=2: 14, all 14", 0, x.way(2, 2, 0, 0, 0));
        due.is("b=1: 15, all 14", 9, x.way(1, 1, 1, 0, 0));
    }

    private static void bestCost() {
        due.promise(21, "bestCost");
        PlanShelves x = Due.with("a=?&b=?");
        due.is("no run", NOT_FOUND, x.bestCost());
        x.row(1, 1, 0, 0, 100);
        x.row(2, 2, 0, 0, 300);
        x.row(3, 2, 0, 0, 600);
        x.run(0, 1, 2, 0, 0);
        due.is("as a whole", 1000, x.bestCost());
        x.index(1, 1);
        due.is("b=2: 910", 910, x.bestCost());
        x.index(0, 1);
        due.is("a=1: 110", 110, x.bestCost());
        x.row(1, 9, 0, 0, 999);
        due.is("a=1: 1109, b=2: 910", 910, x.bestCost());
        x.analyse();
        due.is("latest(4), what it did cost", 1000, x.latest(4));
        x.index(1, 0);
        due.is("a=1: 1109", 1109, x.bestCost());
        x.dropRow(2);
        x.dropRow(1);
        due.is("1099 as a whole, a=1: 1109", 1099, x.bestCost());
        x.run(0, 2, 0, 0, 0);
        due.is("a=2: 10", 10, x.bestCost());
        x.undo();
        due.is("of the run before", 1099, x.bestCost());
        x.dropRow(0);
        x.dropRow(0);
        due.is("an empty table", 0, x.bestCost());
    }

    private static void undo() {
        due.promise(22, "undo");
        PlanShelves x = new PlanShelves();
        for (int number = 0; number < 6; number++) {
            x.row(number, 0, 0, 0, 1);
            due.is("count(12)", Math.min(number + 1, 4), x.count(12));
        }
        x.type('a');
        for (int left = 3; left >= 0; left--) {
            due.is("undo()", left, x.undo());
            due.is("count(12)", left, x.count(12));
            due.is("count(0)", 2 + left, x.count(0));
        }
        due.is("undo(), empty", NOT_POSSIBLE, x.undo());
        due.is("count(0)", 2, x.count(0));
        due.is("rowOf(1, 0)", 1, x.rowOf(1, 0));
        due.is("count(13), the text stays", 1, x.count(13));
        x.row(7, 7, 7, 7, 7);
        due.is("count(12)", 1, x.count(12));
        due.is("rowOf(2, 0)", 7, x.rowOf(2, 0));
        due.is("undo()", 0, x.undo());
        due.is("count(1)", 2, x.count(1));
    }

    private static void undoOfEachChange() {
        due.promise(22, "undo, each change");
        PlanShelves x = Due.with("a=?");
        x.row(1, 2, 3, 4, 5);
        x.row(6, 7, 8, 9, 10);
        x.dropRow(0);
        x.undo();
        for (int what = 0; what <= 4; what++) {
            due.is("rowOf(0, " + what + "), dropRow undone", 1 + what, x.rowOf(0, what));
            due.is("rowOf(1, " + what + "), dropRow undone", 6 + what, x.rowOf(1, what));
        }
        due.is("count(1)", 15, x.count(1));
        x.undo();
        due.is("count(0), row undone", 1, x.count(0));
        due.is("count(1)", 5, x.count(1));
        x.index(2, 1);
        x.undo();
        due.is("count(3), index undone", 0, x.count(3));
        x.analyse();
        x.undo();
        due.is("count(2), analyse undone", 0, x.count(2));
        due.is("known(0, 1)", 0, x.known(0, 1));
        Due.statement(x, "d<?");
        x.undo();
        due.is("count(4), statement undone", 1, x.count(4));
        due.is("statementOf(1, 0)", INVALID, x.statementOf(1, 0));
        due.is("count(13), the text is not", 3, x.count(13));
        due.is("statement() again", 1, x.statement());
        x.run(0, 1, 0, 0, 0);
        x.undo();
        due.is("count(7), run undone", 0, x.count(7));
        due.is("count(5)", 0, x.count(5));
        due.is("count(10)", 0, x.count(10));
        due.is("latest(0)", NOT_FOUND, x.latest(0));
        due.is("statementOf(0, 2)", 0, x.statementOf(0, 2));
        x.run(0, 1, 0, 0, 0);
        due.is("latest(1), the number is new again", 0, x.latest(1));
        x.pin(0, 1);
        x.undo();
        due.is("planOf(0, 6), pin undone", 0, x.planOf(0, 6));
        x.drop(0);
        x.undo();
        due.is("planOf(0, 4), drop undone", 1, x.planOf(0, 4));
        due.is("count(11)", 0, x.count(11));
        x.set(1, 7);
        x.undo();
        due.is("count(21), set undone", 300, x.count(21));
    }

    private static void undoOfEverything() {
        due.promise(22, "undo, everything at once");
        PlanShelves x = Due.with("a=?", "b=?");
        x.set(4, 1);
        x.set(3, 1);
        x.row(1, 1, 1, 1, 100);
        x.analyse();
        x.index(0, 1);
        x.run(0, 2, 0, 0, 0);
        x.run(0, 2, 0, 0, 0);
        int[] before = counts(x);
        x.run(1, 1, 0, 0, 0);
        due.is("latest(7)", 0, x.latest(7));
        due.is("latest(0)", 2, x.latest(0));
        x.index(0, 0);
        x.row(2, 2, 2, 2, 900);
        x.run(1, 1, 0, 0, 0);
        due.is("latest(6)", 1, x.latest(6));
        due.is("count(11)", 1, x.count(11));
        for (int left = 3; left >= 0; left--) {
            due.is("undo()", left, x.undo());
        }
        int[] after = counts(x);
        for (int what = 0; what <= 11; what++) {
            due.is("count(" + what + ")", before[what], after[what]);
        }
        int[] plan = {0, 0, 0, 10, 2, 0, 0, 0};
        int[] run = {0, 0, 0, 10, 10, 0, 0, NOT_FOUND};
        for (int what = 0; what <= 7; what++) {
            due.is("planOf(0, " + what + ")", plan[what], x.planOf(0, what));
            due.is("latest(" + what + ")", run[what], x.latest(what));
        }
        due.is("bestCost()", 10, x.bestCost());
    }

    private static int[] counts(PlanShelves x) {
        int[] counts = new int[12];
        for (int what = 0; what < counts.length; what++) {
            counts[what] = x.count(what);
        }
        return counts;
    }

    private static void errorsRecordNothing() {
        due.promise(22, "undo, errors and questions record nothing");
        PlanShelves x = Due.with("a=?");
        x.run(0, 0, 0, 0, 0);
        x.pin(0, 1);
        x.undo();
        x.undo();
        x.run(0, 0, 0, 0, 0);
        x.undo();
        due.is("count(12)", 1, x.count(12));
        x.row(0, 0, 0, 0, 0);
        x.dropRow(0);
        x.index(0, 0);
        x.clearText();
        x.statement();
        x.type('a');
        x.run(0, 32, 0, 0, 0);
        x.pin(0, 1);
        x.drop(0);
        x.set(0, -1);
        x.rowOf(0, 0);
        x.known(0, 0);
        x.statementOf(0, 0);
        x.latest(0);
        x.planOf(0, 0);
        x.planFor(0, 0);
        x.dropsNext(0);
        x.classOf(0, 0, 0, 0, 0);
        x.way(0, 0, 0, 0, 0);
        x.bestCost();
        x.fault(0);
        due.is("count(12)", 1, x.count(12));
        due.is("undo()", 0, x.undo());
        due.is("undo()", NOT_POSSIBLE, x.undo());
        due.is("count(12)", 0, x.count(12));
        due.is("count(13)", 1, x.count(13));
    }
}
