import java.util.function.IntUnaryOperator;

/** The sentences of the promises 10 to 14 that name a boundary case, each with a test of its own. */
public final class EdgesOfRunPromisesTest {
    private static final int INVALID = PlanShelves.INVALID_ARGUMENT;
    private static final int NOT_POSSIBLE = PlanShelves.NOT_POSSIBLE;
    private static final int NOT_FOUND = PlanShelves.NOT_FOUND;
    private static final int WHOLE = 9;
    private static final int MIN = Integer.MIN_VALUE;
    private static final int MAX = Integer.MAX_VALUE;
    private static final int[] NO_VALUES = {-1, 32, 64, MIN, MIN + 1, MAX};
    private static final Due due = new Due("EdgesOfRunPromisesTest");

    public static void main(String[] args) {
        runStatement();
        runValues();
        runWeights();
        runInvalid();
        latestClass();
        latestPlan();
        latestWay();
        latestEstimate();
        latestTrueCost();
        latestOrigin();
        latestSurprise();
        latestDropped();
        latestInvalid();
        latestWithoutARun();
        latestPlanWithoutANumber();
        latestNoneDropped();
        pinOrNotAnyMore();
        pinPlan();
        pinIs();
        pinHowMany();
        pinInvalid();
        dropPlan();
        dropHowManyAreLeft();
        dropInvalid();
        dropPinned();
        setTooManyStay();
        setWhat();
        setValue();
        setWhatItWas();
        setInvalid();
        due.end();
    }

    private static void runStatement() {
        due.sentence("Promise 10", "`statement`: number of the statement");
        PlanShelves x = new PlanShelves();
        due.each("run(%, 0, 0, 0, 0), no statement", INVALID, statement -> x.run(statement, 0, 0, 0, 0), 0, -1, MIN, MAX);
        PlanShelves six = Due.six();
        six.row(0, 5, 0, 0, 2);
        due.list("run(%, 5, 0, 0, 0)", statement -> six.run(statement, 5, 0, 0, 0), 0, 2, 0, 0, 2, 0, INVALID, INVALID);
        due.each("run(%, 0, 0, 0, 0)", INVALID, statement -> six.run(statement, 0, 0, 0, 0), -1, 6, MIN, MAX);
        due.is("count(7)", 6, six.count(7));
    }

    private static void runValues() {
        PlanShelves x = Due.with("a=?&b=?&c=?&d=?", "a=?", "a=?&b=?", "a=?&b=?&c=?");
        Due.rows(x, 1, 31, 7);
        runValue("`v0`: 0 to 31: the value of the condition 0", v0 -> x.run(0, v0, 31, 31, 31));
        runValue("`v1`: 0 to 31", v1 -> x.run(0, 31, v1, 31, 31));
        runValue("`v2`: 0 to 31", v2 -> x.run(0, 31, 31, v2, 31));
        runValue("`v3`: 0 to 31", v3 -> x.run(0, 31, 31, 31, v3));
        due.is("run(1, 31, 0, 0, 0)", 7, x.run(1, 31, 0, 0, 0));
        due.is("run(2, 31, 31, 0, 0)", 7, x.run(2, 31, 31, 0, 0));
        due.is("run(3, 31, 31, 31, 0)", 7, x.run(3, 31, 31, 31, 0));
    }

    private static void runValue(String words, IntUnaryOperator run) {
        due.sentence("Promise 10", words);
        due.each("run with %", INVALID, run, NO_VALUES);
        due.is("run with 31", 7, run.applyAsInt(31));
        due.is("run with 30", 0, run.applyAsInt(30));
        due.is("run with 0", 0, run.applyAsInt(0));
    }

    private static void runWeights() {
        due.sentence("Promise 10", "Returns the weights of all rows for which all conditions hold;");
        PlanShelves x = Due.with("a>?&b<?&c=?&d=?", "a<?");
        due.is("an empty table", 0, x.run(1, 31, 0, 0, 0));
        x.row(1, 30, 5, 5, 1);
        x.row(0, 30, 5, 5, 10);
        x.row(1, 31, 5, 5, 100);
        x.row(1, 30, 4, 5, 200);
        x.row(1, 30, 5, 4, 400);
        due.is("all four hold for the first row alone", 1, x.run(0, 0, 31, 5, 5));
        x.row(31, 0, 5, 5, 999);
        due.is("the last row too", 1000, x.run(0, 0, 31, 5, 5));
        due.is("none", 0, x.run(0, 31, 31, 5, 5));
        x.dropRow(5);
        due.is("the last row is dropped", 1, x.run(0, 0, 31, 5, 5));
        PlanShelves full = Due.with("a<?", "a<?&b<?&c<?&d<?");
        Due.rows(full, 30, 30, 999);
        due.is("all rows of a full table", 29970, full.run(0, 31, 0, 0, 0));
        due.is("all rows, four conditions", 29970, full.run(1, 31, 31, 31, 31));
        due.is("no row of a full table", 0, full.run(1, 31, 31, 31, 30));
    }

    private static void runInvalid() {
        due.sentence("Promise 10", "INVALID_ARGUMENT if an argument is out of range.");
        PlanShelves x = Due.with("a=?", "a=?&b=?&c=?&d=?");
        due.is("run(1, 32, 32, 32, 32)", INVALID, x.run(1, 32, 32, 32, 32));
        due.is("run(1, -1, -1, -1, -1)", INVALID, x.run(1, -1, -1, -1, -1));
        due.is("run(1, 31, 31, 31, 32)", INVALID, x.run(1, 31, 31, 31, 32));
        due.is("run(0, 0, 1, 0, 0)", INVALID, x.run(0, 0, 1, 0, 0));
        due.is("run(2, 32, 0, 0, 0)", INVALID, x.run(2, 32, 0, 0, 0));
        due.is("run(MAX, MIN, MAX, MIN, MAX)", INVALID, x.run(MAX, MIN, MAX, MIN, MAX));
        due.is("count(7)", 0, x.count(7));
        due.is("count(5)", 0, x.count(5));
        due.is("latest(0)", NOT_FOUND, x.latest(0));
    }

    private static void latestClass() {
        due.sentence("Promise 11", "0: the class;");
        PlanShelves x = Due.with("a=?&b=?&c=?&d=?", "a=?");
        x.run(0, 1, 1, 1, 1);
        due.is("latest(0), the least", 0, x.latest(0));
        Due.rows(x, 1, 1, 8);
        Due.rows(x, 1, 2, 2);
        x.analyse();
        x.run(0, 1, 1, 1, 1);
        due.is("latest(0), the highest", 80, x.latest(0));
        x.run(1, 1, 0, 0, 0);
        due.is("latest(0), the highest of one condition", 2, x.latest(0));
        x.run(0, 0, 0, 0, 2);
        due.is("latest(0), the condition 3 alone", 27, x.latest(0));
        x.set(0, 1000);
        due.is("latest(0), as it was", 27, x.latest(0));
    }

    private static void latestPlan() {
        due.sentence("Promise 11", "1: the plan;");
        PlanShelves x = Due.six();
        Due.runFirst(x, 2);
        due.is("latest(1)", 1, x.latest(1));
        x.run(0, 0, 0, 0, 0);
        due.is("latest(1), one that was there", 0, x.latest(1));
        x.drop(0);
        due.is("latest(1), thrown away by then", 0, x.latest(1));
        Due.rows(x, 1, 1, 1);
        x.set(3, 1);
        x.run(1, 0, 0, 0, 0);
        due.is("latest(1), thrown away for this run", 1, x.latest(1));
        due.is("planOf(1, 0)", INVALID, x.planOf(1, 0));
        x.run(2, 0, 0, 0, 0);
        due.is("latest(1), made and thrown away", 2, x.latest(1));
    }

    private static void latestWay() {
        due.sentence("Promise 11", "2: by which condition it went, 9: as a whole;");
        PlanShelves x = Due.with("a=?&b=?&c=?&d=?", "a=?");
        x.run(0, 0, 0, 0, 0);
        due.is("latest(2), no index", WHOLE, x.latest(2));
        Due.rows(x, 1, 1, 500);
        x.analyse();
        x.index(3, 1);
        x.run(0, 1, 1, 1, 0);
        due.is("latest(2), the last condition", 3, x.latest(2));
        x.index(0, 1);
        x.run(1, 0, 0, 0, 0);
        due.is("latest(2), the first condition", 0, x.latest(2));
        x.run(1, 1, 0, 0, 0);
        due.is("latest(2), 510 and as a whole 500", WHOLE, x.latest(2));
        x.index(0, 0);
        x.index(3, 0);
        x.undo();
        x.undo();
        x.undo();
        due.is("latest(2), of the run before", 0, x.latest(2));
    }

    private static void latestEstimate() {
        due.sentence("Promise 11", "3: the estimate;");
        PlanShelves x = Due.with("a<?");
        x.run(0, 31, 0, 0, 0);
        due.is("latest(3), as a whole, nothing known", 0, x.latest(3));
        x.drop(0);
        Due.rows(x, 30, 30, 999);
        x.run(0, 31, 0, 0, 0);
        due.is("latest(3), nothing known yet", 0, x.latest(3));
        x.analyse();
        x.run(0, 31, 0, 0, 0);
        due.is("latest(3), all of a full table", 29970, x.latest(3));
        x.index(0, 1);
        x.run(0, 30, 0, 0, 0);
        due.is("latest(2), of the plan of the first run", WHOLE, x.latest(2));
        x.drop(x.latest(1));
        x.run(0, 30, 0, 0, 0);
        due.is("latest(3), by the index, none", 10, x.latest(3));
        x.dropRow(0);
        due.is("latest(3), as it was", 10, x.latest(3));
    }

    private static void latestTrueCost() {
        due.sentence("Promise 11", "4: the true cost;");
        PlanShelves x = Due.with("a<?");
        x.run(0, 31, 0, 0, 0);
        due.is("latest(4), an empty table", 0, x.latest(4));
        Due.rows(x, 30, 30, 999);
        due.is("latest(4), as it was", 0, x.latest(4));
        x.run(0, 31, 0, 0, 0);
        due.is("latest(4), a full table", 29970, x.latest(4));
        x.analyse();
        x.index(0, 1);
        x.run(0, 31, 0, 0, 0);
        due.is("latest(4), as a whole costs less than the index", 29970, x.latest(4));
    }

    private static void latestOrigin() {
        due.sentence("Promise 11", "5: 0 if the plan was there, 1 if it was made and kept, 2 if it was made and not kept;");
        PlanShelves x = Due.six();
        x.set(4, 1);
        x.run(0, 0, 0, 0, 0);
        due.is("latest(5), made", 1, x.latest(5));
        x.run(0, 0, 0, 0, 0);
        due.is("latest(5), there", 0, x.latest(5));
        x.run(1, 0, 0, 0, 0);
        due.is("latest(5), made for one that was dropped", 1, x.latest(5));
        x.pin(1, 1);
        x.run(0, 0, 0, 0, 0);
        due.is("latest(5), all are pinned", 2, x.latest(5));
        x.run(0, 0, 0, 0, 0);
        due.is("latest(5), made again", 2, x.latest(5));
        x.run(1, 0, 0, 0, 0);
        due.is("latest(5), the pinned one", 0, x.latest(5));
        due.is("count(8), those whose plan was there", 2, x.count(8));
        x.pin(1, 0);
        x.set(3, 1);
        Due.rows(x, 1, 1, 1);
        x.run(2, 0, 0, 0, 0);
        due.is("latest(5), made, kept, and thrown away for its surprise", 1, x.latest(5));
        due.is("count(5)", 0, x.count(5));
    }

    private static void latestSurprise() {
        due.sentence("Promise 11", "6: 1 if it was a surprise, otherwise 0;");
        PlanShelves x = Due.with("a=?");
        x.set(3, 9);
        x.run(0, 0, 0, 0, 0);
        due.is("latest(6), 0 is not above 0", 0, x.latest(6));
        Due.rows(x, 1, 1, 1);
        x.run(0, 0, 0, 0, 0);
        due.is("latest(6), 1 is above 0", 1, x.latest(6));
        x.dropRow(0);
        due.is("latest(6), as it was", 1, x.latest(6));
        x.run(0, 0, 0, 0, 0);
        due.is("latest(6), 0 again", 0, x.latest(6));
    }

    private static void latestDropped() {
        due.sentence("Promise 11", "7: the plan that was dropped for the new one (the first one of several)");
        PlanShelves x = Due.six();
        Due.runFirst(x, 4);
        x.run(0, 0, 0, 0, 0);
        x.run(4, 0, 0, 0, 0);
        due.is("latest(7), one", 1, x.latest(7));
        x.set(4, 2);
        x.run(5, 0, 0, 0, 0);
        due.is("count(9), three more", 4, x.count(9));
        due.is("latest(7), the first one of three", 2, x.latest(7));
        x.set(4, 1);
        x.pin(5, 1);
        x.run(1, 0, 0, 0, 0);
        due.is("latest(5), not kept", 2, x.latest(5));
        due.is("latest(7), dropped all the same", 0, x.latest(7));
    }

    private static void latestInvalid() {
        due.sentence("Promise 11", "INVALID_ARGUMENT if what is out of range;");
        PlanShelves x = Due.with("a=?");
        due.each("latest(%), no run", INVALID, x::latest, -1, 8, 9, MIN, MAX);
        x.run(0, 0, 0, 0, 0);
        due.each("latest(%)", INVALID, x::latest, -1, 8, 9, MIN, MAX);
    }

    private static void latestWithoutARun() {
        due.sentence("Promise 11", "NOT_FOUND if there was no run,");
        PlanShelves x = Due.with("a=?");
        due.each("latest(%)", NOT_FOUND, x::latest, 0, 1, 2, 3, 4, 5, 6, 7);
        x.run(0, 32, 0, 0, 0);
        due.each("latest(%), a run that is refused", NOT_FOUND, x::latest, 0, 1, 2, 3, 4, 5, 6, 7);
        x.run(0, 31, 0, 0, 0);
        due.is("latest(0)", 0, x.latest(0));
        x.undo();
        due.each("latest(%), the only run is undone", NOT_FOUND, x::latest, 0, 1, 2, 3, 4, 5, 6, 7);
    }

    private static void latestPlanWithoutANumber() {
        due.sentence("Promise 11", "for 1 if the plan has no number,");
        PlanShelves x = Due.six();
        x.set(4, 1);
        x.run(0, 0, 0, 0, 0);
        due.is("latest(1)", 0, x.latest(1));
        x.pin(0, 1);
        x.run(1, 0, 0, 0, 0);
        due.is("latest(1), not kept", NOT_FOUND, x.latest(1));
        due.is("latest(0)", 0, x.latest(0));
        x.run(0, 0, 0, 0, 0);
        due.is("latest(1), the one that is kept", 0, x.latest(1));
    }

    private static void latestNoneDropped() {
        due.sentence("Promise 11", "for 7 if none was dropped.");
        PlanShelves x = Due.six();
        Due.runFirst(x, 4);
        due.is("latest(7), there was room", NOT_FOUND, x.latest(7));
        x.run(4, 0, 0, 0, 0);
        due.is("latest(7)", 0, x.latest(7));
        x.run(4, 0, 0, 0, 0);
        due.is("latest(7), the plan was there", NOT_FOUND, x.latest(7));
        x.set(4, 1);
        x.run(4, 0, 0, 0, 0);
        due.is("latest(7), there are too many, but it was there", NOT_FOUND, x.latest(7));
        x.run(5, 0, 0, 0, 0);
        x.pin(5, 1);
        x.run(0, 0, 0, 0, 0);
        due.is("latest(7), all are pinned", NOT_FOUND, x.latest(7));
    }

    private static void pinOrNotAnyMore() {
        due.sentence("Promise 12", "Pins a plan, or not any more.");
        PlanShelves x = Due.six();
        x.set(4, 1);
        x.run(0, 0, 0, 0, 0);
        due.is("pin(0, 0), it was not", 0, x.pin(0, 0));
        due.is("pin(0, 1)", 1, x.pin(0, 1));
        due.is("pin(0, 1), it was", 1, x.pin(0, 1));
        x.run(1, 0, 0, 0, 0);
        due.is("planOf(0, 6), it stays", 1, x.planOf(0, 6));
        due.is("pin(0, 0)", 0, x.pin(0, 0));
        x.run(1, 0, 0, 0, 0);
        due.is("planOf(0, 6), it is dropped", INVALID, x.planOf(0, 6));
        due.is("planOf(1, 6), a new plan is not pinned", 0, x.planOf(1, 6));
    }

    private static void pinPlan() {
        due.sentence("Promise 12", "`plan`: number of a plan that is kept");
        PlanShelves x = Due.six();
        due.is("pin(0, 1), none", INVALID, x.pin(0, 1));
        Due.runFirst(x, 5);
        due.is("pin(0, 1), dropped", INVALID, x.pin(0, 1));
        due.is("pin(1, 1), the first one", 1, x.pin(1, 1));
        due.is("pin(4, 1), the last one", 2, x.pin(4, 1));
        due.each("pin(%, 1)", INVALID, plan -> x.pin(plan, 1), -1, 5, NOT_FOUND, MIN, MAX);
        due.each("pin(%, 0)", INVALID, plan -> x.pin(plan, 0), -1, 5, NOT_FOUND, MIN, MAX);
    }

    private static void pinIs() {
        due.sentence("Promise 12", "`is`: 1: pinned; 0: not");
        PlanShelves x = Due.six();
        x.run(0, 0, 0, 0, 0);
        due.each("pin(0, %), not pinned", INVALID, is -> x.pin(0, is), -1, 2, 3, MIN, MAX);
        due.is("planOf(0, 6)", 0, x.planOf(0, 6));
        x.pin(0, 1);
        due.each("pin(0, %), pinned", INVALID, is -> x.pin(0, is), -1, 2, 4, MIN, MAX);
        due.is("planOf(0, 6)", 1, x.planOf(0, 6));
    }

    private static void pinHowMany() {
        due.sentence("Promise 12", "Returns how many plans are pinned then;");
        PlanShelves x = Due.six();
        Due.rows(x, 1, 1, 1);
        x.analyse();
        x.set(4, 8);
        for (int number = 0; number < 8; number++) {
            x.run(number / 2, 1 + number % 2, 0, 0, 0);
        }
        due.is("pin(3, 0), none", 0, x.pin(3, 0));
        for (int number = 0; number < 8; number++) {
            due.is("pin(" + number + ", 1)", number + 1, x.pin(number, 1));
        }
        due.is("pin(7, 1) again", 8, x.pin(7, 1));
        for (int number = 0; number < 8; number++) {
            due.is("pin(" + number + ", 0)", 7 - number, x.pin(number, 0));
        }
    }

    private static void pinInvalid() {
        due.sentence("Promise 12", "INVALID_ARGUMENT if an argument is out of range, or the plan is not kept.");
        PlanShelves x = Due.six();
        x.set(4, 1);
        x.run(0, 0, 0, 0, 0);
        due.is("pin(0, 2)", INVALID, x.pin(0, 2));
        due.is("pin(1, 1)", INVALID, x.pin(1, 1));
        due.is("pin(1, 2)", INVALID, x.pin(1, 2));
        x.pin(0, 1);
        x.run(1, 0, 0, 0, 0);
        due.is("pin(1, 1), made and not kept", INVALID, x.pin(1, 1));
        due.is("pin(NOT_FOUND, 1), what latest(1) tells", INVALID, x.pin(x.latest(1), 1));
        x.pin(0, 0);
        x.drop(0);
        due.is("pin(0, 1), thrown away", INVALID, x.pin(0, 1));
        due.is("count(6)", 0, x.count(6));
    }

    private static void dropPlan() {
        due.sentence("Promise 13", "`plan`: number of a plan that is kept");
        PlanShelves x = Due.six();
        due.is("drop(0), none", INVALID, x.drop(0));
        Due.runFirst(x, 5);
        due.is("drop(0), dropped", INVALID, x.drop(0));
        due.is("drop(4), the last one", 3, x.drop(4));
        due.is("drop(1), the first one", 2, x.drop(1));
        due.order(x, 2, 3);
        due.is("count(11)", 2, x.count(11));
        due.is("count(9)", 1, x.count(9));
    }

    private static void dropHowManyAreLeft() {
        due.sentence("Promise 13", "Returns how many are left;");
        PlanShelves x = Due.six();
        Due.rows(x, 1, 1, 1);
        x.analyse();
        x.set(4, 8);
        for (int number = 0; number < 8; number++) {
            x.run(number / 2, 1 + number % 2, 0, 0, 0);
        }
        x.pin(7, 1);
        for (int number = 0; number < 7; number++) {
            due.is("drop(" + number + ")", 7 - number, x.drop(number));
        }
        x.pin(7, 0);
        due.is("drop(7), the last one", 0, x.drop(7));
        due.is("drop(7) again", INVALID, x.drop(7));
    }

    private static void dropInvalid() {
        due.sentence("Promise 13", "INVALID_ARGUMENT if the plan is not kept;");
        PlanShelves x = Due.six();
        due.each("drop(%), none", INVALID, x::drop, 0, -1, NOT_FOUND, MIN, MAX);
        Due.runFirst(x, 4);
        due.each("drop(%), four", INVALID, x::drop, -1, 4, 5, 8, NOT_FOUND, MIN, MAX);
        due.is("drop(2)", 3, x.drop(2));
        due.is("drop(2) again", INVALID, x.drop(2));
        due.is("count(5)", 3, x.count(5));
    }

    private static void dropPinned() {
        due.sentence("Promise 13", "NOT_POSSIBLE if it is pinned.");
        PlanShelves x = Due.six();
        Due.runFirst(x, 2);
        x.pin(0, 1);
        due.is("drop(0)", NOT_POSSIBLE, x.drop(0));
        due.is("count(5)", 2, x.count(5));
        due.is("drop(1), another is pinned", 1, x.drop(1));
        due.is("drop(0), the only one", NOT_POSSIBLE, x.drop(0));
        x.pin(0, 0);
        due.is("drop(0), not pinned any more", 0, x.drop(0));
    }

    private static void setTooManyStay() {
        due.sentence("Promise 14", "(Plans that are too many then stay.)");
        PlanShelves x = Due.six();
        Due.rows(x, 1, 1, 1);
        x.analyse();
        x.set(4, 8);
        for (int number = 0; number < 8; number++) {
            x.run(number / 2, 1 + number % 2, 0, 0, 0);
        }
        due.is("set(4, 1)", 8, x.set(4, 1));
        due.is("count(5)", 8, x.count(5));
        due.order(x, 0, 1, 2, 3, 4, 5, 6, 7);
        x.run(3, 1, 0, 0, 0);
        due.is("latest(5), one that is there", 0, x.latest(5));
        due.is("count(5), a run by it", 8, x.count(5));
        x.run(4, 1, 0, 0, 0);
        due.is("count(5), a run that makes one", 1, x.count(5));
    }

    private static void setWhat() {
        due.sentence("Promise 14", "`what`: 0 to 4");
        PlanShelves x = new PlanShelves();
        due.list("set(%, 1)", what -> x.set(what, 1), 50, 300, 4, 2, 4, INVALID, INVALID);
        due.each("set(%, 1)", INVALID, what -> x.set(what, 1), -1, 5, 20, 24, MIN, MAX);
        due.each("set(%, 0)", INVALID, what -> x.set(what, 0), -1, 5, 20, 24, MIN, MAX);
        due.list("count(20 + %)", what -> x.count(20 + what), 1, 1, 1, 1, 1, INVALID);
    }

    private static void setValue() {
        due.sentence("Promise 14", "`value`: a value in its range");
        int[] least = {0, 0, 1, 1, 1};
        int[] most = {1000, 1000, 99, 9, 8};
        for (int what = 0; what < 5; what++) {
            PlanShelves x = new PlanShelves();
            for (int value = -2; value <= 1002; value = value == 110 ? 990 : value + 1) {
                boolean right = value >= least[what] && value <= most[what];
                int before = x.count(20 + what);
                due.is("set(" + what + ", " + value + ")", right ? before : INVALID, x.set(what, value));
                due.is("count(" + (20 + what) + ")", right ? value : before, x.count(20 + what));
            }
        }
    }

    private static void setWhatItWas() {
        due.sentence("Promise 14", "Returns what it was;");
        PlanShelves x = new PlanShelves();
        due.is("set(0, 0)", 50, x.set(0, 0));
        due.is("set(0, 1000)", 0, x.set(0, 1000));
        due.is("set(0, 1000), as it is", 1000, x.set(0, 1000));
        due.is("set(0, 1001)", INVALID, x.set(0, 1001));
        due.is("set(0, 5), after one that was refused", 1000, x.set(0, 5));
        x.undo();
        due.is("set(0, 6), after an undo", 1000, x.set(0, 6));
    }

    private static void setInvalid() {
        due.sentence("Promise 14", "INVALID_ARGUMENT if an argument is out of range.");
        PlanShelves x = new PlanShelves();
        due.is("set(5, 0)", INVALID, x.set(5, 0));
        due.is("set(-1, 0)", INVALID, x.set(-1, 0));
        due.is("set(-1, 50)", INVALID, x.set(-1, 50));
        due.is("set(2, 0)", INVALID, x.set(2, 0));
        due.is("set(3, 0)", INVALID, x.set(3, 0));
        due.is("set(4, 0)", INVALID, x.set(4, 0));
        due.is("set(4, 9)", INVALID, x.set(4, 9));
        due.is("set(5, MAX)", INVALID, x.set(5, MAX));
        due.is("set(MIN, MIN)", INVALID, x.set(MIN, MIN));
        due.is("count(12)", 0, x.count(12));
        due.list("count(20 + %)", what -> x.count(20 + what), 50, 300, 4, 2, 4);
    }
}
