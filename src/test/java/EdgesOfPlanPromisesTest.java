/** The sentences of the promises 15 to 18 that name a boundary case, each with a test of its own. */
public final class EdgesOfPlanPromisesTest {
    private static final int INVALID = PlanShelves.INVALID_ARGUMENT;
    private static final int NOT_FOUND = PlanShelves.NOT_FOUND;
    private static final int WHOLE = 9;
    private static final int MIN = Integer.MIN_VALUE;
    private static final int MAX = Integer.MAX_VALUE;
    private static final Due due = new Due("EdgesOfPlanPromisesTest");

    public static void main(String[] args) {
        planOfPlan();
        planOfStatement();
        planOfClass();
        planOfWay();
        planOfEstimate();
        planOfUses();
        planOfSurprises();
        planOfPinned();
        planOfRunsSince();
        planOfInvalid();
        planForStatement();
        planForOwn();
        planForNumber();
        planForInvalid();
        planForNone();
        dropsNextOrder();
        dropsNextPlace();
        dropsNextInvalid();
        dropsNextNotSoMany();
        countOfTheTable();
        countOfIndexes();
        countOfStatementsAndPlans();
        countOfRuns();
        countOfDroppedOnes();
        countOfSurprises();
        countOfThrownAway();
        countOfStates();
        countOfCharacters();
        countOfSettings();
        countInvalid();
        due.end();
    }

    /** Eight plans, which are as many as may be: two for each of the first four statements, in the classes 2 and 0. */
    private static PlanShelves eight() {
        PlanShelves x = Due.six();
        Due.rows(x, 1, 1, 1);
        x.analyse();
        x.set(4, 8);
        for (int number = 0; number < 8; number++) {
            x.run(number / 2, 1 + number % 2, 0, 0, 0);
        }
        return x;
    }

    private static void planOfPlan() {
        due.sentence("Promise 15", "`plan`: number of a plan that is kept");
        PlanShelves x = eight();
        due.list("planOf(%, 0)", plan -> x.planOf(plan, 0), 0, 0, 1, 1, 2, 2, 3, 3, INVALID);
        due.each("planOf(%, 0)", INVALID, plan -> x.planOf(plan, 0), -1, 8, NOT_FOUND, MIN, MAX);
        x.drop(0);
        x.drop(7);
        due.list("planOf(%, 0), two thrown away", plan -> x.planOf(plan, 0), INVALID, 0, 1, 1, 2, 2, 3, INVALID);
    }

    private static void planOfStatement() {
        due.sentence("Promise 15", "0: its statement;");
        PlanShelves x = Due.six();
        x.run(5, 0, 0, 0, 0);
        x.run(0, 0, 0, 0, 0);
        due.is("planOf(0, 0), the last statement", 5, x.planOf(0, 0));
        due.is("planOf(1, 0), the first one", 0, x.planOf(1, 0));
    }

    private static void planOfClass() {
        due.sentence("Promise 15", "1: its class;");
        PlanShelves x = Due.with("a=?&b=?&c=?&d=?", "a=?");
        Due.rows(x, 1, 1, 1);
        x.analyse();
        x.run(0, 2, 2, 2, 2);
        x.run(0, 1, 1, 1, 1);
        x.run(1, 1, 0, 0, 0);
        due.list("planOf(%, 1): the least, the highest, that of one condition", plan -> x.planOf(plan, 1), 0, 80, 2);
        x.set(1, 0);
        x.dropRow(0);
        x.analyse();
        due.is("planOf(1, 1), as it was made", 80, x.planOf(1, 1));
    }

    private static void planOfWay() {
        due.sentence("Promise 15", "2: by which condition it goes, 9: as a whole;");
        PlanShelves x = Due.with("a=?&b=?&c=?&d=?", "b=?");
        Due.rows(x, 1, 1, 100);
        x.analyse();
        x.run(1, 1, 0, 0, 0);
        x.index(3, 1);
        x.run(0, 1, 1, 1, 2);
        x.index(0, 1);
        x.run(0, 2, 1, 1, 1);
        due.list("planOf(%, 2)", plan -> x.planOf(plan, 2), WHOLE, 3, 0);
        x.index(1, 1);
        x.run(1, 1, 0, 0, 0);
        due.is("planOf(0, 2), as it was made", WHOLE, x.planOf(0, 2));
    }

    private static void planOfEstimate() {
        due.sentence("Promise 15", "3: its estimate;");
        PlanShelves x = Due.with("a<?", "b=?");
        x.run(1, 0, 0, 0, 0);
        due.is("planOf(0, 3), nothing known", 0, x.planOf(0, 3));
        Due.rows(x, 30, 30, 999);
        x.analyse();
        x.run(0, 31, 0, 0, 0);
        due.is("planOf(1, 3), all of a full table", 29970, x.planOf(1, 3));
        x.index(0, 1);
        x.run(0, 30, 0, 0, 0);
        due.is("planOf(2, 3), by the index, none", 10, x.planOf(2, 3));
        due.is("planOf(0, 3), as it was made", 0, x.planOf(0, 3));
    }

    private static void planOfUses() {
        due.sentence("Promise 15", "4: its uses;");
        PlanShelves x = Due.six();
        x.run(0, 0, 0, 0, 0);
        due.is("planOf(0, 4), the making one", 1, x.planOf(0, 4));
        for (int use = 2; use <= 100; use++) {
            x.run(0, use % 32, 0, 0, 0);
            due.is("planOf(0, 4)", use, x.planOf(0, 4));
        }
        x.drop(0);
        x.run(0, 0, 0, 0, 0);
        due.is("planOf(1, 4), a new plan for the same class", 1, x.planOf(1, 4));
    }

    private static void planOfSurprises() {
        due.sentence("Promise 15", "5: its surprises;");
        PlanShelves x = Due.six();
        x.set(3, 9);
        Due.runFirst(x, 2);
        due.is("planOf(0, 5)", 0, x.planOf(0, 5));
        Due.rows(x, 1, 1, 1);
        for (int surprise = 1; surprise <= 8; surprise++) {
            x.run(0, 0, 0, 0, 0);
            due.is("planOf(0, 5)", surprise, x.planOf(0, 5));
        }
        due.is("planOf(1, 5), another plan", 0, x.planOf(1, 5));
        x.run(0, 0, 0, 0, 0);
        due.is("planOf(0, 5), the ninth", INVALID, x.planOf(0, 5));
        x.run(2, 0, 0, 0, 0);
        due.is("planOf(2, 5), the making run was one", 1, x.planOf(2, 5));
    }

    private static void planOfPinned() {
        due.sentence("Promise 15", "6: 1 if it is pinned, otherwise 0;");
        PlanShelves x = Due.six();
        Due.runFirst(x, 2);
        due.is("planOf(0, 6), new", 0, x.planOf(0, 6));
        x.pin(0, 1);
        due.is("planOf(0, 6)", 1, x.planOf(0, 6));
        due.is("planOf(1, 6), another one", 0, x.planOf(1, 6));
        x.pin(0, 0);
        due.is("planOf(0, 6), not any more", 0, x.planOf(0, 6));
        x.pin(0, 1);
        x.undo();
        due.is("planOf(0, 6), undone", 0, x.planOf(0, 6));
        x.pin(1, 1);
        x.set(3, 1);
        Due.rows(x, 1, 1, 1);
        x.run(1, 0, 0, 0, 0);
        x.analyse();
        x.run(1, 0, 0, 0, 0);
        due.is("planOf(2, 6), a new plan where a pinned one was thrown away", 0, x.planOf(2, 6));
    }

    private static void planOfRunsSince() {
        due.sentence("Promise 15", "7: how many runs there were (of all statements) since it was used last");
        PlanShelves x = Due.six();
        x.run(0, 0, 0, 0, 0);
        due.is("planOf(0, 7), used now", 0, x.planOf(0, 7));
        for (int since = 1; since <= 50; since++) {
            x.run(1, 0, 0, 0, 0);
            due.is("planOf(0, 7)", since, x.planOf(0, 7));
        }
        x.run(2, 32, 0, 0, 0);
        due.is("planOf(0, 7), a run that is refused", 50, x.planOf(0, 7));
        x.set(4, 1);
        x.pin(0, 1);
        x.pin(1, 1);
        x.run(2, 0, 0, 0, 0);
        due.is("planOf(0, 7), a run whose plan is not kept", 51, x.planOf(0, 7));
        x.run(0, 0, 0, 0, 0);
        due.is("planOf(0, 7), used again", 0, x.planOf(0, 7));
        due.is("planOf(1, 7)", 2, x.planOf(1, 7));
        x.undo();
        due.is("planOf(0, 7), undone", 51, x.planOf(0, 7));
    }

    private static void planOfInvalid() {
        due.sentence("Promise 15", "INVALID_ARGUMENT if what is out of range or the plan is not kept.");
        PlanShelves x = Due.six();
        due.is("planOf(0, 0), none", INVALID, x.planOf(0, 0));
        due.is("planOf(0, 8), none", INVALID, x.planOf(0, 8));
        x.run(0, 0, 0, 0, 0);
        due.each("planOf(0, %)", INVALID, what -> x.planOf(0, what), -1, 8, 9, MIN, MAX);
        due.each("planOf(1, %)", INVALID, what -> x.planOf(1, what), -1, 0, 7, 8, MIN, MAX);
        x.set(4, 1);
        x.run(1, 0, 0, 0, 0);
        due.is("planOf(0, 0), dropped", INVALID, x.planOf(0, 0));
        x.pin(1, 1);
        x.run(2, 0, 0, 0, 0);
        due.is("planOf(2, 0), not kept", INVALID, x.planOf(2, 0));
        due.is("planOf(NOT_FOUND, 0)", INVALID, x.planOf(NOT_FOUND, 0));
        x.undo();
        x.undo();
        x.undo();
        due.is("planOf(1, 0), its making is undone", INVALID, x.planOf(1, 0));
        due.is("planOf(0, 0)", 0, x.planOf(0, 0));
    }

    private static void planForStatement() {
        due.sentence("Promise 16", "`statement`: number of the statement");
        PlanShelves x = new PlanShelves();
        due.each("planFor(%, 0), no statement", INVALID, statement -> x.planFor(statement, 0), 0, -1, MIN, MAX);
        PlanShelves six = Due.six();
        six.set(4, 8);
        Due.runFirst(six, 6);
        due.list("planFor(%, 0)", statement -> six.planFor(statement, 0), 0, 1, 2, 3, 4, 5, INVALID);
        due.each("planFor(%, 0)", INVALID, statement -> six.planFor(statement, 0), -1, 6, 7, MIN, MAX);
    }

    private static void planForOwn() {
        due.sentence("Promise 16", "`own`: 0 to 80: the class");
        PlanShelves x = Due.with("a=?&b=?&c=?&d=?", "a=?");
        Due.rows(x, 1, 1, 1);
        x.analyse();
        x.run(0, 1, 1, 1, 1);
        x.run(0, 2, 2, 2, 2);
        due.is("planFor(0, 0)", 1, x.planFor(0, 0));
        due.is("planFor(0, 80)", 0, x.planFor(0, 80));
        due.each("planFor(0, %)", INVALID, own -> x.planFor(0, own), -1, 81, 82, MIN, MAX);
        due.each("planFor(1, %), no class of one condition", NOT_FOUND, own -> x.planFor(1, own), 0, 2, 3, 80);
        due.each("planFor(1, %)", INVALID, own -> x.planFor(1, own), -1, 81);
    }

    private static void planForNumber() {
        due.sentence("Promise 16", "Returns the number of the plan;");
        PlanShelves x = eight();
        for (int number = 0; number < 8; number++) {
            due.is("planFor of the plan " + number, number, x.planFor(number / 2, number % 2 == 0 ? 2 : 0));
        }
        x.drop(0);
        x.run(0, 1, 0, 0, 0);
        due.is("planFor(0, 2), a new one", 8, x.planFor(0, 2));
        due.is("planFor(0, 0)", 1, x.planFor(0, 0));
    }

    private static void planForInvalid() {
        due.sentence("Promise 16", "INVALID_ARGUMENT if an argument is out of range;");
        PlanShelves x = eight();
        due.is("planFor(6, 81)", INVALID, x.planFor(6, 81));
        due.is("planFor(-1, -1)", INVALID, x.planFor(-1, -1));
        due.is("planFor(6, 0)", INVALID, x.planFor(6, 0));
        due.is("planFor(0, 81)", INVALID, x.planFor(0, 81));
        due.is("planFor(5, -1)", INVALID, x.planFor(5, -1));
        due.is("planFor(MIN, MAX)", INVALID, x.planFor(MIN, MAX));
        due.is("planFor(MAX, MIN)", INVALID, x.planFor(MAX, MIN));
    }

    private static void planForNone() {
        due.sentence("Promise 16", "NOT_FOUND if there is none.");
        PlanShelves x = Due.six();
        due.is("planFor(0, 0), an empty cache", NOT_FOUND, x.planFor(0, 0));
        x.set(4, 1);
        x.run(0, 0, 0, 0, 0);
        due.is("planFor(0, 0)", 0, x.planFor(0, 0));
        due.is("planFor(0, 1), another class", NOT_FOUND, x.planFor(0, 1));
        due.is("planFor(1, 0), another statement", NOT_FOUND, x.planFor(1, 0));
        x.run(1, 0, 0, 0, 0);
        due.is("planFor(0, 0), dropped", NOT_FOUND, x.planFor(0, 0));
        x.pin(1, 1);
        x.run(0, 0, 0, 0, 0);
        due.is("planFor(0, 0), not kept", NOT_FOUND, x.planFor(0, 0));
        x.pin(1, 0);
        x.drop(1);
        due.is("planFor(1, 0), thrown away", NOT_FOUND, x.planFor(1, 0));
    }

    private static void dropsNextOrder() {
        due.sentence("Promise 17", "in the order in which they would be dropped (pinned ones are left out)");
        PlanShelves x = eight();
        due.order(x, 0, 1, 2, 3, 4, 5, 6, 7);
        x.pin(0, 1);
        x.pin(7, 1);
        x.pin(4, 1);
        due.order(x, 1, 2, 3, 5, 6);
        x.run(0, 2, 0, 0, 0);
        due.order(x, 2, 3, 5, 6, 1);
        x.run(2, 2, 0, 0, 0);
        x.run(0, 2, 0, 0, 0);
        due.order(x, 2, 3, 6, 5, 1);
        x.pin(4, 0);
        due.order(x, 2, 3, 4, 6, 5, 1);
        x.set(4, 2);
        x.run(5, 1, 0, 0, 0);
        due.is("latest(7), it is as it was told", 2, x.latest(7));
        due.is("count(9), all of them", 6, x.count(9));
        due.order(x);
    }

    private static void dropsNextPlace() {
        due.sentence("Promise 17", "`place`: 0 for the first one, and so on");
        PlanShelves x = Due.six();
        due.is("dropsNext(0), none", NOT_FOUND, x.dropsNext(0));
        x.run(0, 0, 0, 0, 0);
        due.list("dropsNext(%), one", x::dropsNext, 0, NOT_FOUND, NOT_FOUND);
        PlanShelves eight = eight();
        due.list("dropsNext(%), eight", eight::dropsNext, 0, 1, 2, 3, 4, 5, 6, 7, NOT_FOUND, NOT_FOUND);
    }

    private static void dropsNextInvalid() {
        due.sentence("Promise 17", "INVALID_ARGUMENT if place is negative;");
        PlanShelves x = new PlanShelves();
        due.each("dropsNext(%), none", INVALID, x::dropsNext, -1, -2, MIN, MIN + 1);
        PlanShelves eight = eight();
        due.each("dropsNext(%), eight", INVALID, eight::dropsNext, -1, -8, MIN, MIN + 1);
    }

    private static void dropsNextNotSoMany() {
        due.sentence("Promise 17", "NOT_FOUND if there are not so many.");
        PlanShelves x = Due.six();
        due.each("dropsNext(%), none", NOT_FOUND, x::dropsNext, 0, 1, 8, MAX);
        Due.runFirst(x, 4);
        due.is("dropsNext(3)", 3, x.dropsNext(3));
        due.each("dropsNext(%), four", NOT_FOUND, x::dropsNext, 4, 5, MAX);
        x.pin(0, 1);
        due.is("dropsNext(2)", 3, x.dropsNext(2));
        due.each("dropsNext(%), three and a pinned one", NOT_FOUND, x::dropsNext, 3, 4, MAX);
        x.pin(1, 1);
        x.pin(2, 1);
        x.pin(3, 1);
        due.each("dropsNext(%), all pinned", NOT_FOUND, x::dropsNext, 0, 1, 4, MAX);
    }

    private static void countOfTheTable() {
        due.sentence("Promise 18", "0: rows; 1: the size of the table; 2: the size that the statistics know;");
        PlanShelves x = new PlanShelves();
        due.list("count(%), empty", x::count, 0, 0, 0);
        Due.rows(x, 30, 31, 999);
        due.list("count(%), full, not taken", x::count, 30, 29970, 0);
        x.analyse();
        due.list("count(%), full", x::count, 30, 29970, 29970);
        x.dropRow(29);
        x.row(0, 0, 0, 0, 1);
        due.list("count(%), another last one", x::count, 30, 28972, 29970);
        for (int row = 0; row < 30; row++) {
            x.dropRow(0);
        }
        due.list("count(%), empty again", x::count, 0, 0, 29970);
    }

    private static void countOfIndexes() {
        due.sentence("Promise 18", "3: columns with an index, as a set (bit k for the column k);");
        for (int set = 0; set < 16; set++) {
            PlanShelves x = new PlanShelves();
            for (int column = 0; column < 4; column++) {
                if ((set >> column & 1) == 1) {
                    x.index(column, 1);
                }
            }
            due.is("count(3)", set, x.count(3));
        }
    }

    private static void countOfStatementsAndPlans() {
        due.sentence("Promise 18", "4: statements; 5: plans that are kept; 6: pinned ones;");
        PlanShelves x = new PlanShelves();
        due.list("count(4 + %), none", what -> x.count(4 + what), 0, 0, 0);
        PlanShelves eight = eight();
        due.list("count(4 + %), as many as may be", what -> eight.count(4 + what), 6, 8, 0);
        for (int plan = 0; plan < 8; plan++) {
            eight.pin(plan, 1);
        }
        due.list("count(4 + %), all pinned", what -> eight.count(4 + what), 6, 8, 8);
        Due.statement(eight, "a=?&b=?");
        eight.run(4, 1, 0, 0, 0);
        due.list("count(4 + %), one too many of each", what -> eight.count(4 + what), 6, 8, 8);
        for (int plan = 0; plan < 8; plan++) {
            eight.pin(plan, 0);
            eight.drop(plan);
        }
        due.list("count(4 + %), all thrown away", what -> eight.count(4 + what), 6, 0, 0);
    }

    private static void countOfRuns() {
        due.sentence("Promise 18", "7: runs so far; 8: those whose plan was there;");
        PlanShelves x = Due.six();
        due.list("count(7 + %), none", what -> x.count(7 + what), 0, 0);
        for (int run = 1; run <= 100; run++) {
            x.run(0, 0, 0, 0, 0);
            due.is("count(7)", run, x.count(7));
            due.is("count(8), all but the first one", run - 1, x.count(8));
        }
        x.run(0, 32, 0, 0, 0);
        due.list("count(7 + %), a run that is refused", what -> x.count(7 + what), 100, 99);
        x.set(4, 1);
        x.pin(0, 1);
        x.run(1, 0, 0, 0, 0);
        x.run(1, 0, 0, 0, 0);
        due.list("count(7 + %), two whose plan is not kept", what -> x.count(7 + what), 102, 99);
        x.undo();
        due.list("count(7 + %), one undone", what -> x.count(7 + what), 101, 99);
    }

    private static void countOfDroppedOnes() {
        due.sentence("Promise 18", "9: plans dropped for new ones so far;");
        PlanShelves x = eight();
        due.is("count(9), a full cache", 0, x.count(9));
        x.drop(0);
        x.run(4, 1, 0, 0, 0);
        due.is("count(9), there was room", 0, x.count(9));
        x.run(4, 2, 0, 0, 0);
        due.is("count(9), one", 1, x.count(9));
        x.set(4, 1);
        due.is("count(9), too many stay", 1, x.count(9));
        x.pin(2, 1);
        x.run(5, 1, 0, 0, 0);
        due.is("latest(5), not kept", 2, x.latest(5));
        due.is("count(9), all others", 8, x.count(9));
        x.run(5, 1, 0, 0, 0);
        due.is("count(9), none is left", 8, x.count(9));
        due.is("count(11), that of drop() alone", 1, x.count(11));
    }

    private static void countOfSurprises() {
        due.sentence("Promise 18", "10: surprises so far;");
        PlanShelves x = Due.six();
        x.set(3, 9);
        x.run(0, 0, 0, 0, 0);
        due.is("count(10), the bound", 0, x.count(10));
        Due.rows(x, 1, 1, 1);
        for (int surprise = 1; surprise <= 30; surprise++) {
            x.run(surprise % 2, 0, 0, 0, 0);
            due.is("count(10), of two plans, some thrown away", surprise, x.count(10));
        }
        x.dropRow(0);
        x.run(0, 0, 0, 0, 0);
        due.is("count(10), a run that was none", 30, x.count(10));
        x.undo();
        x.undo();
        x.undo();
        due.is("count(10), the last one undone", 29, x.count(10));
    }

    private static void countOfThrownAway() {
        due.sentence("Promise 18", "11: plans thrown away so far (for surprises, with an index, or by drop());");
        PlanShelves x = Due.six();
        due.is("count(11), none", 0, x.count(11));
        Due.rows(x, 1, 1, 100);
        x.analyse();
        x.index(0, 1);
        x.run(0, 2, 0, 0, 0);
        x.run(4, 1, 0, 0, 0);
        x.run(1, 1, 0, 0, 0);
        x.run(2, 1, 0, 0, 0);
        due.is("index(0, 0)", 2, x.index(0, 0));
        due.is("count(11), with an index", 2, x.count(11));
        x.drop(2);
        due.is("count(11), by drop()", 3, x.count(11));
        x.set(2, 1);
        x.set(3, 1);
        x.row(1, 1, 1, 1, 1);
        x.run(2, 1, 0, 0, 0);
        due.is("count(11), for a surprise", 4, x.count(11));
        due.is("count(5)", 0, x.count(5));
        x.run(2, 1, 0, 0, 0);
        due.is("count(11), the making run was one", 5, x.count(11));
        x.set(4, 1);
        x.analyse();
        x.run(0, 1, 0, 0, 0);
        x.run(1, 1, 0, 0, 0);
        due.is("count(9)", 1, x.count(9));
        due.is("count(11), dropped ones are not among them", 5, x.count(11));
    }

    private static void countOfStates() {
        due.sentence("Promise 18", "12: states in the history;");
        PlanShelves x = new PlanShelves();
        due.is("count(12), new", 0, x.count(12));
        for (int change = 1; change <= 6; change++) {
            x.analyse();
            due.is("count(12)", Math.min(change, 4), x.count(12));
        }
        for (int left = 3; left >= 0; left--) {
            x.undo();
            due.is("count(12), undone", left, x.count(12));
        }
        x.undo();
        due.is("count(12), nothing to undo", 0, x.count(12));
    }

    private static void countOfCharacters() {
        due.sentence("Promise 18", "13: the length of the text;");
        PlanShelves x = new PlanShelves();
        due.is("count(13), empty", 0, x.count(13));
        for (int typed = 1; typed <= 32; typed++) {
            x.type(126);
            due.is("count(13)", Math.min(typed, 30), x.count(13));
        }
        x.clearText();
        due.is("count(13), cleared", 0, x.count(13));
    }

    private static void countOfSettings() {
        due.sentence("Promise 18", "20 to 24: the settings 0 to 4");
        PlanShelves x = new PlanShelves();
        due.list("count(20 + %), first", what -> x.count(20 + what), 50, 300, 4, 2, 4, INVALID);
        x.set(0, 0);
        x.set(1, 1000);
        x.set(2, 99);
        x.set(3, 9);
        x.set(4, 8);
        due.list("count(20 + %), set", what -> x.count(20 + what), 0, 1000, 99, 9, 8, INVALID);
        due.is("count(19)", INVALID, x.count(19));
    }

    private static void countInvalid() {
        due.sentence("Promise 18", "INVALID_ARGUMENT if what is out of range.");
        PlanShelves x = new PlanShelves();
        for (int what = -3; what <= 40; what++) {
            boolean right = what >= 0 && what <= 13 || what >= 20 && what <= 24;
            due.is("whether count(" + what + ") is an error", right ? 0 : 1, x.count(what) == INVALID ? 1 : 0);
        }
        due.each("count(%)", INVALID, x::count, MIN, MIN + 20, MAX);
    }
}
