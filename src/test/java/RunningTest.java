/** Promises 10 to 14: runs, what the latest one did, pins, drops and settings. */
public final class RunningTest {
    private static final int INVALID = PlanShelves.INVALID_ARGUMENT;
    private static final int NOT_FOUND = PlanShelves.NOT_FOUND;
    private static final Due due = new Due("RunningTest");

    public static void main(String[] args) {
        runWeights();
        runArguments();
        runUsesThePlanOfTheClass();
        runDropsTheLeastUsed();
        runWithTooManyPlans();
        runWithAllPinned();
        runSurprises();
        runSurpriseOfAPinnedPlan();
        runSurpriseThatIsNotKept();
        runSurpriseBound();
        latest();
        pin();
        drop();
        set();
        setThrowsNothingAway();
        due.end();
    }

    private static void runWeights() {
        due.promise(10, "run, its answer");
        PlanShelves x = Due.with("a=?", "a<?", "a>?", "a>?&a<?&b=?&d>?");
        due.is("run, empty table", 0, x.run(0, 0, 0, 0, 0));
        x.row(0, 0, 0, 0, 1);
        x.row(5, 1, 0, 3, 20);
        x.row(5, 2, 0, 3, 300);
        x.row(31, 1, 0, 31, 4);
        due.is("a=5", 320, x.run(0, 5, 0, 0, 0));
        due.is("a=6", 0, x.run(0, 6, 0, 0, 0));
        due.is("a<5", 1, x.run(1, 5, 0, 0, 0));
        due.is("a<0", 0, x.run(1, 0, 0, 0, 0));
        due.is("a<31", 321, x.run(1, 31, 0, 0, 0));
        due.is("a>5", 4, x.run(2, 5, 0, 0, 0));
        due.is("a>4", 324, x.run(2, 4, 0, 0, 0));
        due.is("a>31", 0, x.run(2, 31, 0, 0, 0));
        due.is("a>0&a<31&b=1&d>2", 20, x.run(3, 0, 31, 1, 2));
        due.is("a>0&a<31&b=2&d>2", 300, x.run(3, 0, 31, 2, 2));
        due.is("a>0&a<31&b=2&d>3", 0, x.run(3, 0, 31, 2, 3));
        due.is("a>4&a<31&b=1&d>0", 20, x.run(3, 4, 31, 1, 0));
        due.is("count(7)", 13, x.count(7));
    }

    private static void runArguments() {
        due.promise(10, "run, its arguments");
        PlanShelves x = Due.with("a=?&b=?", "a=?&b=?&c=?&d=?");
        due.is("run(2, ..)", INVALID, x.run(2, 0, 0, 0, 0));
        due.is("run(-1, ..)", INVALID, x.run(-1, 0, 0, 0, 0));
        due.is("run(MAX, ..)", INVALID, x.run(Integer.MAX_VALUE, 0, 0, 0, 0));
        due.is("run(0, 32, 0, 0, 0)", INVALID, x.run(0, 32, 0, 0, 0));
        due.is("run(0, 0, -1, 0, 0)", INVALID, x.run(0, 0, -1, 0, 0));
        due.is("run(0, 0, 0, 1, 0), no such condition", INVALID, x.run(0, 0, 0, 1, 0));
        due.is("run(0, 0, 0, 0, 31), no such condition", INVALID, x.run(0, 0, 0, 0, 31));
        due.is("run(0, 0, 0, 0, -1)", INVALID, x.run(0, 0, 0, 0, -1));
        due.is("run(1, 0, 0, 32, 0)", INVALID, x.run(1, 0, 0, 32, 0));
        due.is("run(1, 0, 0, 0, -1)", INVALID, x.run(1, 0, 0, 0, -1));
        due.is("run(1, 0, 0, 0, MAX)", INVALID, x.run(1, 0, 0, 0, Integer.MAX_VALUE));
        due.is("count(7)", 0, x.count(7));
        due.is("latest(0)", NOT_FOUND, x.latest(0));
        due.is("count(12)", 2, x.count(12));
        due.is("run(1, 31, 31, 31, 31)", 0, x.run(1, 31, 31, 31, 31));
        due.is("run(0, 31, 31, 0, 0)", 0, x.run(0, 31, 31, 0, 0));
        due.is("count(7)", 2, x.count(7));
    }

    private static void runUsesThePlanOfTheClass() {
        due.promise(10, "run, the plan for the class");
        PlanShelves x = Due.with("a=?");
        x.row(1, 0, 0, 0, 400);
        x.row(2, 0, 0, 0, 350);
        x.row(3, 0, 0, 0, 250);
        x.analyse();
        x.index(0, 1);
        x.run(0, 1, 0, 0, 0);
        due.is("latest(0), share 400", 2, x.latest(0));
        due.is("latest(3), made with a=1", 410, x.latest(3));
        x.run(0, 2, 0, 0, 0);
        due.is("latest(5), share 350 is of the same class", 0, x.latest(5));
        due.is("latest(1)", 0, x.latest(1));
        due.is("latest(3), as it was made", 410, x.latest(3));
        due.is("latest(4), with a=2", 360, x.latest(4));
        x.run(0, 3, 0, 0, 0);
        due.is("latest(0), share 250", 1, x.latest(0));
        due.is("latest(5)", 1, x.latest(5));
        due.is("latest(1)", 1, x.latest(1));
        due.is("count(8)", 1, x.count(8));
        due.is("count(5)", 2, x.count(5));
        x.set(1, 250);
        x.run(0, 3, 0, 0, 0);
        due.is("latest(0), by the new bound", 2, x.latest(0));
        due.is("latest(1), so by the other plan", 0, x.latest(1));
        due.is("planOf(0, 4)", 3, x.planOf(0, 4));
        due.is("planOf(1, 4)", 1, x.planOf(1, 4));
    }

    /** On an empty table each of these has one class, so one plan. */
    private static PlanShelves sixStatements() {
        return Due.with("a=?", "b=?", "c=?", "d=?", "a<?", "b<?");
    }

    private static void runDropsTheLeastUsed() {
        due.promise(10, "run, a full cache");
        PlanShelves x = sixStatements();
        x.set(4, 3);
        x.run(0, 0, 0, 0, 0);
        x.run(0, 0, 0, 0, 0);
        x.run(1, 0, 0, 0, 0);
        x.run(2, 0, 0, 0, 0);
        due.is("count(5)", 3, x.count(5));
        x.run(3, 0, 0, 0, 0);
        due.is("latest(7), of two with one use that of longer ago", 1, x.latest(7));
        due.is("latest(1)", 3, x.latest(1));
        due.is("count(5)", 3, x.count(5));
        due.is("count(9)", 1, x.count(9));
        due.is("count(11)", 0, x.count(11));
        x.run(2, 0, 0, 0, 0);
        due.is("latest(7)", NOT_FOUND, x.latest(7));
        x.run(4, 0, 0, 0, 0);
        due.is("latest(7), the one with the fewest uses", 3, x.latest(7));
        x.run(4, 0, 0, 0, 0);
        x.run(0, 0, 0, 0, 0);
        x.run(5, 0, 0, 0, 0);
        due.is("latest(7), of two with two uses that of longer ago", 2, x.latest(7));
        due.is("planFor(0, 0)", 0, x.planFor(0, 0));
        due.is("planFor(4, 0)", 4, x.planFor(4, 0));
        due.is("planFor(5, 0)", 5, x.planFor(5, 0));
        due.is("count(9)", 3, x.count(9));
        x.run(1, 0, 0, 0, 0);
        due.is("latest(1), a number is not used again", 6, x.latest(1));
    }

    private static void runWithTooManyPlans() {
        due.promise(10, "run, more plans than the setting");
        PlanShelves x = sixStatements();
        for (int number = 0; number < 4; number++) {
            x.run(number, 0, 0, 0, 0);
        }
        x.pin(1, 1);
        x.set(4, 2);
        due.is("count(5), those too many stay", 4, x.count(5));
        x.run(3, 0, 0, 0, 0);
        due.is("latest(5), a plan that is there", 0, x.latest(5));
        due.is("count(5)", 4, x.count(5));
        x.run(4, 0, 0, 0, 0);
        due.is("latest(5)", 1, x.latest(5));
        due.is("latest(7), the first one of three", 0, x.latest(7));
        due.is("count(9)", 3, x.count(9));
        due.is("count(5)", 2, x.count(5));
        due.is("planOf(1, 6)", 1, x.planOf(1, 6));
        due.is("planOf(4, 0)", 4, x.planOf(4, 0));
        due.is("planOf(3, 0)", INVALID, x.planOf(3, 0));
    }

    private static void runWithAllPinned() {
        due.promise(10, "run, all pinned");
        PlanShelves x = sixStatements();
        x.row(3, 3, 3, 3, 3);
        x.analyse();
        for (int number = 0; number < 4; number++) {
            x.run(number, 0, 0, 0, 0);
        }
        x.pin(0, 1);
        x.pin(1, 1);
        x.pin(3, 1);
        x.set(4, 3);
        due.is("run(4, 4, ..)", 3, x.run(4, 4, 0, 0, 0));
        due.is("latest(0)", 2, x.latest(0));
        due.is("latest(1)", NOT_FOUND, x.latest(1));
        due.is("latest(2)", 9, x.latest(2));
        due.is("latest(3)", 3, x.latest(3));
        due.is("latest(4)", 3, x.latest(4));
        due.is("latest(5)", 2, x.latest(5));
        due.is("latest(6)", 0, x.latest(6));
        due.is("latest(7), dropped all the same", 2, x.latest(7));
        due.is("count(5)", 3, x.count(5));
        due.is("count(9)", 1, x.count(9));
        due.is("planFor(4, 2)", NOT_FOUND, x.planFor(4, 2));
        due.is("statementOf(4, 1)", 0, x.statementOf(4, 1));
        due.is("statementOf(4, 2)", 1, x.statementOf(4, 2));
        x.run(4, 4, 0, 0, 0);
        due.is("latest(5), made again", 2, x.latest(5));
        due.is("latest(7)", NOT_FOUND, x.latest(7));
        due.is("count(8)", 0, x.count(8));
        x.pin(1, 0);
        x.run(4, 4, 0, 0, 0);
        due.is("latest(7)", 1, x.latest(7));
        due.is("latest(1), the next number", 4, x.latest(1));
        due.is("planOf(4, 4)", 1, x.planOf(4, 4));
        due.is("planOf(4, 6)", 0, x.planOf(4, 6));
    }

    private static void runSurprises() {
        due.promise(10, "run, surprises");
        PlanShelves x = Due.with("a=?");
        x.row(1, 0, 0, 0, 10);
        x.analyse();
        x.run(0, 1, 0, 0, 0);
        due.is("latest(3)", 10, x.latest(3));
        x.row(2, 0, 0, 0, 30);
        x.run(0, 1, 0, 0, 0);
        due.is("latest(4)", 40, x.latest(4));
        due.is("latest(6), 4 times is not above", 0, x.latest(6));
        x.row(2, 0, 0, 0, 1);
        x.run(0, 1, 0, 0, 0);
        due.is("latest(4)", 41, x.latest(4));
        due.is("latest(6)", 1, x.latest(6));
        due.is("planOf(0, 5)", 1, x.planOf(0, 5));
        due.is("count(10)", 1, x.count(10));
        x.set(2, 5);
        x.run(0, 1, 0, 0, 0);
        due.is("latest(6), 5 times", 0, x.latest(6));
        due.is("planOf(0, 5)", 1, x.planOf(0, 5));
        x.set(2, 1);
        x.set(3, 1);
        due.is("planOf(0, 5), no surprise yet behind it", 1, x.planOf(0, 5));
        x.run(0, 1, 0, 0, 0);
        due.is("latest(6)", 1, x.latest(6));
        due.is("latest(1), though it is thrown away", 0, x.latest(1));
        due.is("latest(5)", 0, x.latest(5));
        due.is("count(5)", 0, x.count(5));
        due.is("count(10)", 2, x.count(10));
        due.is("count(11)", 1, x.count(11));
        due.is("count(9)", 0, x.count(9));
        x.run(0, 1, 0, 0, 0);
        due.is("latest(1), made anew", 1, x.latest(1));
        due.is("latest(5), kept and thrown away at once", 1, x.latest(5));
        due.is("latest(6)", 1, x.latest(6));
        due.is("count(5)", 0, x.count(5));
        due.is("count(11)", 2, x.count(11));
    }

    private static void runSurpriseOfAPinnedPlan() {
        due.promise(10, "run, a pinned plan that surprises");
        PlanShelves x = Due.with("a=?");
        x.run(0, 1, 0, 0, 0);
        x.pin(0, 1);
        x.row(1, 1, 1, 1, 1);
        x.run(0, 1, 0, 0, 0);
        due.is("planOf(0, 5)", 1, x.planOf(0, 5));
        x.run(0, 1, 0, 0, 0);
        due.is("count(5)", 0, x.count(5));
        due.is("count(6)", 0, x.count(6));
        due.is("count(11)", 1, x.count(11));
        due.is("undo()", 3, x.undo());
        due.is("planOf(0, 6)", 1, x.planOf(0, 6));
        due.is("planOf(0, 5)", 1, x.planOf(0, 5));
        x.run(0, 1, 0, 0, 0);
        x.analyse();
        x.run(0, 2, 0, 0, 0);
        due.is("latest(1), a plan of its own", 1, x.latest(1));
        due.is("planOf(1, 6)", 0, x.planOf(1, 6));
        due.is("planOf(1, 5)", 0, x.planOf(1, 5));
        due.is("planOf(1, 4)", 1, x.planOf(1, 4));
    }

    private static void runSurpriseThatIsNotKept() {
        due.promise(10, "run, a plan that is not kept surprises");
        PlanShelves x = Due.with("a=?", "b=?");
        x.set(4, 1);
        x.set(3, 1);
        x.run(0, 0, 0, 0, 0);
        x.pin(0, 1);
        x.row(1, 1, 1, 1, 7);
        x.run(1, 1, 0, 0, 0);
        due.is("latest(5)", 2, x.latest(5));
        due.is("latest(6)", 1, x.latest(6));
        due.is("latest(3)", 0, x.latest(3));
        due.is("latest(4)", 7, x.latest(4));
        due.is("count(10)", 1, x.count(10));
        due.is("count(11), what is not kept is not thrown away", 0, x.count(11));
        due.is("count(5)", 1, x.count(5));
        due.is("planOf(0, 5), another's surprise", 0, x.planOf(0, 5));
    }

    private static void runSurpriseBound() {
        due.promise(10, "run, as many surprises as the setting");
        PlanShelves x = Due.with("a=?");
        x.set(3, 9);
        x.run(0, 0, 0, 0, 0);
        x.row(0, 0, 0, 0, 1);
        for (int time = 1; time < 9; time++) {
            x.run(0, 0, 0, 0, 0);
            due.is("planOf(0, 5)", time, x.planOf(0, 5));
        }
        x.run(0, 0, 0, 0, 0);
        due.is("planOf(0, 5), the ninth", INVALID, x.planOf(0, 5));
        due.is("count(10)", 9, x.count(10));
        due.is("count(11)", 1, x.count(11));
    }

    private static void latest() {
        due.promise(11, "latest");
        PlanShelves x = Due.with("a=?&b=?");
        due.is("latest(8)", INVALID, x.latest(8));
        due.is("latest(-1)", INVALID, x.latest(-1));
        due.is("latest(3)", NOT_FOUND, x.latest(3));
        x.row(1, 1, 0, 0, 100);
        x.row(2, 1, 0, 0, 100);
        x.row(2, 2, 0, 0, 800);
        x.analyse();
        x.index(1, 1);
        x.run(0, 2, 1, 0, 0);
        int[] first = {2 + 3, 0, 1, 210, 210, 1, 0, NOT_FOUND};
        for (int what = 0; what < first.length; what++) {
            due.is("latest(" + what + ")", first[what], x.latest(what));
        }
        x.row(0, 1, 0, 0, 631);
        x.run(0, 2, 1, 0, 0);
        int[] second = {5, 0, 1, 210, 841, 0, 1, NOT_FOUND};
        for (int what = 0; what < second.length; what++) {
            due.is("latest(" + what + ")", second[what], x.latest(what));
        }
        x.dropRow(0);
        x.set(2, 99);
        due.is("latest(4), as it was", 841, x.latest(4));
        x.undo();
        x.undo();
        x.undo();
        due.is("latest(4), of the run before", 210, x.latest(4));
        due.is("latest(8)", INVALID, x.latest(8));
        due.is("latest(MIN)", INVALID, x.latest(Integer.MIN_VALUE));
    }

    private static void pin() {
        due.promise(12, "pin");
        PlanShelves x = sixStatements();
        x.run(0, 0, 0, 0, 0);
        x.run(1, 0, 0, 0, 0);
        due.is("pin(1, 1)", 1, x.pin(1, 1));
        due.is("pin(1, 1) again", 1, x.pin(1, 1));
        due.is("pin(0, 1)", 2, x.pin(0, 1));
        due.is("planOf(0, 6)", 1, x.planOf(0, 6));
        due.is("count(6)", 2, x.count(6));
        due.is("pin(1, 0)", 1, x.pin(1, 0));
        due.is("planOf(1, 6)", 0, x.planOf(1, 6));
        due.is("planOf(0, 6)", 1, x.planOf(0, 6));
        due.is("pin(2, 1)", INVALID, x.pin(2, 1));
        due.is("pin(-1, 1)", INVALID, x.pin(-1, 1));
        due.is("pin(-4, 0)", INVALID, x.pin(-4, 0));
        due.is("pin(0, 2)", INVALID, x.pin(0, 2));
        due.is("pin(0, -1)", INVALID, x.pin(0, -1));
        due.is("pin(MAX, MAX)", INVALID, x.pin(Integer.MAX_VALUE, Integer.MAX_VALUE));
        due.is("count(6)", 1, x.count(6));
        x.drop(1);
        due.is("pin(1, 1), not kept any more", INVALID, x.pin(1, 1));
        due.is("undo()", 3, x.undo());
        due.is("undo(), the pin of 1 is back", 2, x.undo());
        due.is("planOf(1, 6)", 1, x.planOf(1, 6));
        due.is("undo()", 1, x.undo());
        due.is("undo(), a pin of a pinned plan is a change", 0, x.undo());
        due.is("planOf(1, 6)", 1, x.planOf(1, 6));
        due.is("planOf(0, 6)", 0, x.planOf(0, 6));
    }

    private static void drop() {
        due.promise(13, "drop");
        PlanShelves x = sixStatements();
        due.is("drop(0)", INVALID, x.drop(0));
        x.run(0, 0, 0, 0, 0);
        x.run(1, 0, 0, 0, 0);
        x.run(2, 0, 0, 0, 0);
        x.pin(1, 1);
        due.is("drop(1), pinned", PlanShelves.NOT_POSSIBLE, x.drop(1));
        due.is("drop(0)", 2, x.drop(0));
        due.is("drop(0) again", INVALID, x.drop(0));
        due.is("drop(3)", INVALID, x.drop(3));
        due.is("drop(-1)", INVALID, x.drop(-1));
        due.is("drop(-4)", INVALID, x.drop(-4));
        due.is("drop(MIN)", INVALID, x.drop(Integer.MIN_VALUE));
        due.is("count(11)", 1, x.count(11));
        due.is("count(5)", 2, x.count(5));
        due.is("planOf(1, 0)", 1, x.planOf(1, 0));
        due.is("planOf(2, 0)", 2, x.planOf(2, 0));
        x.pin(1, 0);
        due.is("drop(1)", 1, x.drop(1));
        due.is("drop(2)", 0, x.drop(2));
        due.is("count(11)", 3, x.count(11));
        due.is("count(9)", 0, x.count(9));
        x.run(0, 0, 0, 0, 0);
        due.is("latest(1), a new number", 3, x.latest(1));
    }

    private static void set() {
        due.promise(14, "set");
        PlanShelves x = new PlanShelves();
        int[] first = {50, 300, 4, 2, 4};
        int[] least = {0, 0, 1, 1, 1};
        int[] most = {1000, 1000, 99, 9, 8};
        for (int what = 0; what < 5; what++) {
            due.is("set(" + what + ", below)", INVALID, x.set(what, least[what] - 1));
            due.is("set(" + what + ", above)", INVALID, x.set(what, most[what] + 1));
            due.is("set(" + what + ", MIN)", INVALID, x.set(what, Integer.MIN_VALUE));
            due.is("set(" + what + ", MAX)", INVALID, x.set(what, Integer.MAX_VALUE));
            due.is("count(" + (20 + what) + ")", first[what], x.count(20 + what));
            due.is("set(" + what + ", least)", first[what], x.set(what, least[what]));
            due.is("set(" + what + ", most)", least[what], x.set(what, most[what]));
            due.is("set(" + what + ", most) again", most[what], x.set(what, most[what]));
            due.is("count(" + (20 + what) + ")", most[what], x.count(20 + what));
        }
        due.is("set(5, 1)", INVALID, x.set(5, 1));
        due.is("set(-1, 1)", INVALID, x.set(-1, 1));
        due.is("set(MAX, 1)", INVALID, x.set(Integer.MAX_VALUE, 1));
        due.is("set(MIN, 1)", INVALID, x.set(Integer.MIN_VALUE, 1));
        due.is("undo()", 3, x.undo());
        due.is("undo()", 2, x.undo());
        due.is("count(24)", 1, x.count(24));
    }

    private static void setThrowsNothingAway() {
        due.promise(14, "set, rows and statistics throw nothing away");
        PlanShelves x = sixStatements();
        x.row(1, 1, 1, 1, 10);
        x.analyse();
        x.index(0, 1);
        x.index(0, 0);
        for (int number = 0; number < 4; number++) {
            x.run(number, 1, 0, 0, 0);
        }
        x.set(4, 1);
        x.set(0, 1000);
        x.set(1, 0);
        x.set(3, 1);
        x.dropRow(0);
        x.analyse();
        x.index(1, 1);
        due.is("count(5)", 4, x.count(5));
        due.is("count(11)", 0, x.count(11));
        due.is("planOf(3, 1)", 2, x.planOf(3, 1));
        due.is("planOf(3, 3)", 10, x.planOf(3, 3));
    }
}
