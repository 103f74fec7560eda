/** Promises 15 to 18: what is told of plans, and the counts. */
public final class PlansTest {
    private static final int INVALID = PlanShelves.INVALID_ARGUMENT;
    private static final int NOT_FOUND = PlanShelves.NOT_FOUND;
    private static final Due due = new Due("PlansTest");

    public static void main(String[] args) {
        planOf();
        planFor();
        dropsNext();
        dropsNextForgetsThoseThatAreGone();
        count();
        due.end();
    }

    private static void planOf() {
        due.promise(15, "planOf");
        PlanShelves x = Due.with("c=?", "d>?&c<?");
        x.row(0, 0, 5, 9, 10);
        x.row(0, 0, 6, 9, 90);
        x.analyse();
        x.index(2, 1);
        x.run(0, 5, 0, 0, 0);
        x.run(1, 8, 6, 0, 0);
        x.run(1, 8, 6, 0, 0);
        x.pin(1, 1);
        int[] first = {0, 1, 0, 20, 1, 0, 0, 2};
        int[] second = {1, 2 + 3, 1, 20, 2, 0, 1, 0};
        for (int what = 0; what <= 7; what++) {
            due.is("planOf(0, " + what + ")", first[what], x.planOf(0, what));
            due.is("planOf(1, " + what + ")", second[what], x.planOf(1, what));
        }
        due.is("planOf(0, 8)", INVALID, x.planOf(0, 8));
        due.is("planOf(0, -1)", INVALID, x.planOf(0, -1));
        due.is("planOf(2, 0)", INVALID, x.planOf(2, 0));
        due.is("planOf(-1, 0)", INVALID, x.planOf(-1, 0));
        due.is("planOf(-4, 0)", INVALID, x.planOf(-4, 0));
        due.is("planOf(MAX, MAX)", INVALID, x.planOf(Integer.MAX_VALUE, Integer.MAX_VALUE));
        x.row(0, 0, 5, 9, 61);
        x.run(0, 5, 0, 0, 0);
        due.is("planOf(0, 5), 81 is above 80", 1, x.planOf(0, 5));
        due.is("planOf(0, 3), as it was made", 20, x.planOf(0, 3));
        due.is("planOf(0, 4)", 2, x.planOf(0, 4));
        due.is("planOf(0, 7)", 0, x.planOf(0, 7));
        due.is("planOf(1, 7)", 1, x.planOf(1, 7));
        x.undo();
        due.is("planOf(0, 7), undone", 2, x.planOf(0, 7));
        x.drop(0);
        due.is("planOf(0, 0), thrown away", INVALID, x.planOf(0, 0));
        due.is("planOf(1, 0)", 1, x.planOf(1, 0));
    }

    private static void planFor() {
        due.promise(16, "planFor");
        PlanShelves x = Due.with("a=?", "a=?&a=?&a=?&a=?");
        x.row(4, 4, 4, 4, 4);
        x.analyse();
        x.run(0, 4, 0, 0, 0);
        x.run(0, 5, 0, 0, 0);
        x.run(1, 4, 4, 4, 4);
        x.run(1, 5, 4, 4, 5);
        due.is("planFor(0, 2)", 0, x.planFor(0, 2));
        due.is("planFor(0, 0)", 1, x.planFor(0, 0));
        due.is("planFor(0, 1)", NOT_FOUND, x.planFor(0, 1));
        due.is("planFor(0, 80)", NOT_FOUND, x.planFor(0, 80));
        due.is("planFor(1, 80)", 2, x.planFor(1, 80));
        due.is("planFor(1, 24)", 3, x.planFor(1, 24));
        due.is("planFor(1, 0)", NOT_FOUND, x.planFor(1, 0));
        due.is("planFor(0, 81)", INVALID, x.planFor(0, 81));
        due.is("planFor(0, -1)", INVALID, x.planFor(0, -1));
        due.is("planFor(2, 0)", INVALID, x.planFor(2, 0));
        due.is("planFor(-1, 0)", INVALID, x.planFor(-1, 0));
        due.is("planFor(MIN, MAX)", INVALID, x.planFor(Integer.MIN_VALUE, Integer.MAX_VALUE));
        x.drop(2);
        due.is("planFor(1, 80), thrown away", NOT_FOUND, x.planFor(1, 80));
        due.is("planFor(1, 24)", 3, x.planFor(1, 24));
    }

    private static void dropsNext() {
        due.promise(17, "dropsNext");
        PlanShelves x = Due.with("a=?", "b=?", "c=?", "d=?");
        due.order(x);
        x.run(0, 0, 0, 0, 0);
        x.run(0, 0, 0, 0, 0);
        x.run(1, 0, 0, 0, 0);
        x.run(2, 0, 0, 0, 0);
        due.order(x, 1, 2, 0);
        x.run(1, 0, 0, 0, 0);
        due.order(x, 2, 0, 1);
        x.run(3, 0, 0, 0, 0);
        due.order(x, 2, 3, 0, 1);
        x.pin(3, 1);
        x.pin(0, 1);
        due.order(x, 2, 1);
        x.pin(0, 0);
        due.order(x, 2, 0, 1);
        x.run(0, 0, 0, 0, 0);
        due.order(x, 2, 1, 0);
        due.is("dropsNext(-1)", INVALID, x.dropsNext(-1));
        due.is("dropsNext(MIN)", INVALID, x.dropsNext(Integer.MIN_VALUE));
        due.is("dropsNext(MAX)", NOT_FOUND, x.dropsNext(Integer.MAX_VALUE));
        x.undo();
        due.order(x, 2, 0, 1);
    }

    private static void dropsNextForgetsThoseThatAreGone() {
        due.promise(17, "dropsNext, eight plans");
        PlanShelves x = Due.with("a=?", "b=?", "a<?&b<?");
        x.row(1, 1, 0, 0, 1);
        x.analyse();
        x.set(4, 8);
        x.run(0, 1, 0, 0, 0);
        x.run(0, 2, 0, 0, 0);
        x.run(1, 1, 0, 0, 0);
        x.run(1, 2, 0, 0, 0);
        x.run(2, 2, 2, 0, 0);
        x.run(2, 2, 0, 0, 0);
        x.run(2, 0, 2, 0, 0);
        x.run(2, 0, 0, 0, 0);
        due.order(x, 0, 1, 2, 3, 4, 5, 6, 7);
        due.is("count(5)", 8, x.count(5));
        x.drop(3);
        due.order(x, 0, 1, 2, 4, 5, 6, 7);
        x.drop(0);
        due.order(x, 1, 2, 4, 5, 6, 7);
        x.run(1, 2, 0, 0, 0);
        due.is("latest(1)", 8, x.latest(1));
        due.order(x, 1, 2, 4, 5, 6, 7, 8);
    }

    private static void count() {
        due.promise(18, "count");
        PlanShelves x = Due.with("a=?", "b=?");
        x.row(1, 1, 1, 1, 40);
        x.row(2, 2, 2, 2, 60);
        x.analyse();
        x.row(3, 3, 3, 3, 900);
        x.index(1, 1);
        x.index(3, 1);
        x.set(4, 1);
        x.set(3, 1);
        x.run(1, 1, 0, 0, 0);
        x.run(1, 1, 0, 0, 0);
        x.run(0, 1, 0, 0, 0);
        x.run(1, 1, 0, 0, 0);
        x.pin(2, 1);
        x.run(1, 1, 0, 0, 0);
        int[] due13 = {3, 1000, 100, 10, 2, 1, 1, 5, 2, 1, 1, 1, 4, 3};
        for (int what = 0; what <= 13; what++) {
            due.is("count(" + what + ")", due13[what], x.count(what));
        }
        int[] settings = {50, 300, 4, 1, 1};
        for (int what = 0; what <= 4; what++) {
            due.is("count(" + (20 + what) + ")", settings[what], x.count(20 + what));
        }
        int[] wrong = {-1, 14, 19, 25, Integer.MIN_VALUE, Integer.MAX_VALUE};
        for (int what : wrong) {
            due.is("count(" + what + ")", INVALID, x.count(what));
        }
    }
}
