/** Promises 1 to 7: a new object, rows, indexes, statistics. */
public final class TableTest {
    private static final int INVALID = PlanShelves.INVALID_ARGUMENT;
    private static final Due due = new Due("TableTest");

    public static void main(String[] args) {
        newObject();
        row();
        rowLimit();
        dropRow();
        index();
        indexThrowsAway();
        analyse();
        rowOf();
        known();
        due.end();
    }

    private static void newObject() {
        due.promise(1, "a new object");
        PlanShelves other = Due.with("a=?");
        other.row(1, 1, 1, 1, 1);
        other.run(0, 1, 0, 0, 0);
        PlanShelves x = new PlanShelves();
        for (int what = 0; what <= 13; what++) {
            due.is("count(" + what + ")", 0, x.count(what));
        }
        int[] settings = {50, 300, 4, 2, 4};
        for (int what = 0; what < settings.length; what++) {
            due.is("count(" + (20 + what) + ")", settings[what], x.count(20 + what));
        }
        for (int what = 0; what <= 7; what++) {
            due.is("latest(" + what + ")", PlanShelves.NOT_FOUND, x.latest(what));
        }
        due.is("known(0, 0)", 0, x.known(0, 0));
        due.is("known(3, 31)", 0, x.known(3, 31));
        due.is("rowOf(0, 0)", INVALID, x.rowOf(0, 0));
        due.is("statementOf(0, 0)", INVALID, x.statementOf(0, 0));
        due.is("planOf(0, 0)", INVALID, x.planOf(0, 0));
        due.is("dropsNext(0)", PlanShelves.NOT_FOUND, x.dropsNext(0));
        due.is("bestCost()", PlanShelves.NOT_FOUND, x.bestCost());
        due.is("undo()", PlanShelves.NOT_POSSIBLE, x.undo());
        due.is("fault(0)", 0, x.fault(0));
        due.is("fault(1)", 1, x.fault(1));
        due.is("other.count(0)", 1, other.count(0));
    }

    private static void row() {
        due.promise(2, "row");
        PlanShelves x = new PlanShelves();
        due.is("row(0, 0, 0, 0, 1)", 0, x.row(0, 0, 0, 0, 1));
        due.is("row(31, 31, 31, 31, 999)", 1, x.row(31, 31, 31, 31, 999));
        due.is("row(1, 2, 3, 4, 5)", 2, x.row(1, 2, 3, 4, 5));
        int[] wrongValues = {-1, 32, Integer.MIN_VALUE, Integer.MAX_VALUE};
        for (int wrong : wrongValues) {
            due.is("row with a " + wrong, INVALID, x.row(wrong, 0, 0, 0, 1));
            due.is("row with b " + wrong, INVALID, x.row(0, wrong, 0, 0, 1));
            due.is("row with c " + wrong, INVALID, x.row(0, 0, wrong, 0, 1));
            due.is("row with d " + wrong, INVALID, x.row(0, 0, 0, wrong, 1));
        }
        int[] wrongWeights = {0, -1, 1000, Integer.MIN_VALUE, Integer.MAX_VALUE};
        for (int wrong : wrongWeights) {
            due.is("row with weight " + wrong, INVALID, x.row(0, 0, 0, 0, wrong));
        }
        due.is("count(0)", 3, x.count(0));
        due.is("count(1)", 1005, x.count(1));
        due.is("count(12), as errors record nothing", 3, x.count(12));
    }

    private static void rowLimit() {
        due.promise(2, "row, its limit");
        PlanShelves x = new PlanShelves();
        for (int number = 0; number < 30; number++) {
            due.is("row " + number, number, x.row(number, 31 - number, 0, 31, 999));
        }
        due.is("row 30", PlanShelves.LIMIT_REACHED, x.row(0, 0, 0, 0, 1));
        due.is("row 30 with a wrong weight", INVALID, x.row(0, 0, 0, 0, 0));
        due.is("count(0)", 30, x.count(0));
        due.is("count(1)", 30 * 999, x.count(1));
        due.is("rowOf(29, 1)", 2, x.rowOf(29, 1));
        due.is("analyse()", 30 * 999, x.analyse());
        due.is("known(3, 31)", 30 * 999, x.known(3, 31));
        due.is("dropRow(29)", 999, x.dropRow(29));
        due.is("row in its place", 29, x.row(1, 1, 1, 1, 1));
    }

    private static void dropRow() {
        due.promise(3, "dropRow");
        PlanShelves x = new PlanShelves();
        due.is("dropRow(0), empty", INVALID, x.dropRow(0));
        for (int number = 0; number < 4; number++) {
            x.row(number, number + 10, number + 20, 7, 100 + number);
        }
        due.is("dropRow(-1)", INVALID, x.dropRow(-1));
        due.is("dropRow(4)", INVALID, x.dropRow(4));
        due.is("dropRow(MIN)", INVALID, x.dropRow(Integer.MIN_VALUE));
        due.is("dropRow(MAX)", INVALID, x.dropRow(Integer.MAX_VALUE));
        due.is("dropRow(1)", 101, x.dropRow(1));
        due.is("count(0)", 3, x.count(0));
        due.is("count(1)", 100 + 102 + 103, x.count(1));
        int[] kept = {0, 2, 3};
        for (int number = 0; number < 3; number++) {
            due.is("rowOf(" + number + ", 0)", kept[number], x.rowOf(number, 0));
            due.is("rowOf(" + number + ", 1)", kept[number] + 10, x.rowOf(number, 1));
            due.is("rowOf(" + number + ", 2)", kept[number] + 20, x.rowOf(number, 2));
            due.is("rowOf(" + number + ", 3)", 7, x.rowOf(number, 3));
            due.is("rowOf(" + number + ", 4)", 100 + kept[number], x.rowOf(number, 4));
        }
        due.is("rowOf(3, 0)", INVALID, x.rowOf(3, 0));
        due.is("row behind all", 3, x.row(9, 9, 9, 9, 9));
        due.is("dropRow(3)", 9, x.dropRow(3));
        due.is("dropRow(0)", 100, x.dropRow(0));
        due.is("dropRow(0)", 102, x.dropRow(0));
        due.is("dropRow(0)", 103, x.dropRow(0));
        due.is("dropRow(0), empty again", INVALID, x.dropRow(0));
        due.is("count(1)", 0, x.count(1));
    }

    private static void index() {
        due.promise(4, "index");
        PlanShelves x = new PlanShelves();
        due.is("index(2, 0)", PlanShelves.NOT_POSSIBLE, x.index(2, 0));
        due.is("index(2, 1)", 0, x.index(2, 1));
        due.is("index(2, 1) again", PlanShelves.NOT_POSSIBLE, x.index(2, 1));
        due.is("count(3)", 4, x.count(3));
        due.is("index(0, 1)", 0, x.index(0, 1));
        due.is("index(3, 1)", 0, x.index(3, 1));
        due.is("count(3)", 13, x.count(3));
        due.is("index(2, 0)", 0, x.index(2, 0));
        due.is("count(3)", 9, x.count(3));
        due.is("index(-1, 0)", INVALID, x.index(-1, 0));
        due.is("index(4, 1)", INVALID, x.index(4, 1));
        due.is("index(0, 2)", INVALID, x.index(0, 2));
        due.is("index(0, -1)", INVALID, x.index(0, -1));
        due.is("index(32, 1)", INVALID, x.index(32, 1));
        due.is("index(MIN, MIN)", INVALID, x.index(Integer.MIN_VALUE, Integer.MIN_VALUE));
        due.is("index(MAX, 1)", INVALID, x.index(Integer.MAX_VALUE, 1));
        due.is("count(3)", 9, x.count(3));
    }

    private static void indexThrowsAway() {
        due.promise(4, "index, plans that go by it");
        PlanShelves x = Due.with("b=?&a=?", "a<?", "b>?", "c=?");
        x.row(1, 1, 1, 1, 500);
        x.row(2, 2, 2, 2, 500);
        x.analyse();
        x.index(0, 1);
        x.run(0, 1, 7, 0, 0);
        x.run(1, 0, 0, 0, 0);
        x.run(3, 1, 0, 0, 0);
        x.index(1, 1);
        x.run(2, 9, 0, 0, 0);
        due.is("planOf(0, 2), by the condition 1 on a", 1, x.planOf(0, 2));
        due.is("planOf(1, 2)", 0, x.planOf(1, 2));
        due.is("planOf(2, 2)", 9, x.planOf(2, 2));
        due.is("planOf(3, 2)", 0, x.planOf(3, 2));
        x.pin(1, 1);
        due.is("index(0, 0)", 2, x.index(0, 0));
        due.is("count(5)", 2, x.count(5));
        due.is("count(6), the pinned one is gone", 0, x.count(6));
        due.is("count(11)", 2, x.count(11));
        due.is("count(9), that of dropped ones", 0, x.count(9));
        due.is("planOf(0, 0)", INVALID, x.planOf(0, 0));
        due.is("planOf(1, 0)", INVALID, x.planOf(1, 0));
        due.is("planOf(2, 0), as a whole", 3, x.planOf(2, 0));
        due.is("planOf(3, 0), by another index", 2, x.planOf(3, 0));
        due.is("undo()", 3, x.undo());
        due.is("planOf(1, 6)", 1, x.planOf(1, 6));
        due.is("index(2, 1)", 0, x.index(2, 1));
        due.is("planOf(2, 2), as it was made", 9, x.planOf(2, 2));
        due.is("index(2, 0)", 0, x.index(2, 0));
        due.is("count(5)", 4, x.count(5));
        due.is("index(1, 0), the plan made last", 1, x.index(1, 0));
        due.is("planOf(3, 0)", INVALID, x.planOf(3, 0));
        due.is("count(5)", 3, x.count(5));
        due.is("index(1, 1)", 0, x.index(1, 1));
        due.is("count(5), it does not come back", 3, x.count(5));
    }

    private static void analyse() {
        due.promise(5, "analyse");
        PlanShelves x = new PlanShelves();
        due.is("analyse(), empty", 0, x.analyse());
        due.is("count(12)", 1, x.count(12));
        x.row(5, 6, 7, 8, 30);
        x.row(5, 9, 7, 9, 12);
        due.is("count(2)", 0, x.count(2));
        due.is("known(0, 5), not taken yet", 0, x.known(0, 5));
        due.is("analyse()", 42, x.analyse());
        due.is("count(2)", 42, x.count(2));
        x.dropRow(0);
        due.is("count(1)", 12, x.count(1));
        due.is("count(2), old", 42, x.count(2));
        due.is("known(0, 5), old", 42, x.known(0, 5));
        due.is("analyse()", 12, x.analyse());
        due.is("known(0, 5)", 12, x.known(0, 5));
        due.is("known(1, 6)", 0, x.known(1, 6));
        x.dropRow(0);
        due.is("analyse()", 0, x.analyse());
        due.is("known(0, 5)", 0, x.known(0, 5));
    }

    private static void rowOf() {
        due.promise(6, "rowOf");
        PlanShelves x = new PlanShelves();
        x.row(11, 12, 13, 14, 15);
        for (int what = 0; what <= 4; what++) {
            due.is("rowOf(0, " + what + ")", 11 + what, x.rowOf(0, what));
        }
        due.is("rowOf(0, 5)", INVALID, x.rowOf(0, 5));
        due.is("rowOf(0, -1)", INVALID, x.rowOf(0, -1));
        due.is("rowOf(1, 0)", INVALID, x.rowOf(1, 0));
        due.is("rowOf(-1, 4)", INVALID, x.rowOf(-1, 4));
        due.is("rowOf(MAX, MAX)", INVALID, x.rowOf(Integer.MAX_VALUE, Integer.MAX_VALUE));
        due.is("rowOf(MIN, MIN)", INVALID, x.rowOf(Integer.MIN_VALUE, Integer.MIN_VALUE));
        due.is("count(12)", 1, x.count(12));
    }

    private static void known() {
        due.promise(7, "known");
        PlanShelves x = new PlanShelves();
        x.row(0, 31, 4, 31, 10);
        x.row(0, 31, 5, 0, 20);
        x.row(31, 0, 4, 31, 40);
        x.analyse();
        due.is("known(0, 0)", 30, x.known(0, 0));
        due.is("known(0, 31)", 40, x.known(0, 31));
        due.is("known(1, 0)", 40, x.known(1, 0));
        due.is("known(1, 31)", 30, x.known(1, 31));
        due.is("known(2, 4)", 50, x.known(2, 4));
        due.is("known(2, 5)", 20, x.known(2, 5));
        due.is("known(2, 6)", 0, x.known(2, 6));
        due.is("known(3, 31)", 50, x.known(3, 31));
        due.is("known(3, 0)", 20, x.known(3, 0));
        due.is("known(4, 0)", INVALID, x.known(4, 0));
        due.is("known(-1, 31)", INVALID, x.known(-1, 31));
        due.is("known(0, 32)", INVALID, x.known(0, 32));
        due.is("known(1, -1)", INVALID, x.known(1, -1));
        due.is("known(MAX, MIN)", INVALID, x.known(Integer.MAX_VALUE, Integer.MIN_VALUE));
    }
}
