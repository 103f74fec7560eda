import java.util.List;
import java.util.function.Supplier;
import java.util.function.ToIntFunction;

/** The sentences of 'Changes and errors' that name a boundary case, each with a test of its own. */
public final class EdgesOfChangesTest {
    private static final int INVALID = PlanShelves.INVALID_ARGUMENT;
    private static final int NOT_POSSIBLE = PlanShelves.NOT_POSSIBLE;
    private static final int LIMIT = PlanShelves.LIMIT_REACHED;
    private static final int NOT_FOUND = PlanShelves.NOT_FOUND;
    private static final int MIN = Integer.MIN_VALUE;
    private static final int MAX = Integer.MAX_VALUE;
    private static final String HEADING = "Changes and errors";
    private static final Due due = new Due("EdgesOfChangesTest");

    /** A call, told as it is written. */
    private record Call(String name, ToIntFunction<PlanShelves> answer) { }

    private static final List<Call> CHANGES = List.of(
            new Call("row(4, 4, 4, 4, 44)", x -> x.row(4, 4, 4, 4, 44)),
            new Call("dropRow(0)", x -> x.dropRow(0)),
            new Call("index(1, 1)", x -> x.index(1, 1)),
            new Call("index(0, 0)", x -> x.index(0, 0)),
            new Call("analyse()", x -> x.analyse()),
            new Call("statement(), a new one", x -> Due.statement(x, "d=?")),
            new Call("statement(), one that is there", x -> Due.statement(x, "a=?")),
            new Call("run(0, 1, 0, 0, 0)", x -> x.run(0, 1, 0, 0, 0)),
            new Call("run(1, 0, 0, 0, 0), a plan is made", x -> x.run(1, 0, 0, 0, 0)),
            new Call("pin(1, 1)", x -> x.pin(1, 1)),
            new Call("pin(0, 0)", x -> x.pin(0, 0)),
            new Call("drop(1)", x -> x.drop(1)),
            new Call("set(4, 1)", x -> x.set(4, 1)));

    private static final List<Call> CHANGES_OF_NOTHING = List.of(
            new Call("analyse()", x -> x.analyse()),
            new Call("statement(), one that is there", x -> Due.statement(x, "a=?")),
            new Call("pin(0, 1)", x -> x.pin(0, 1)),
            new Call("pin(1, 0)", x -> x.pin(1, 0)),
            new Call("set(1, 300)", x -> x.set(1, 300)));

    private static final List<Call> QUESTIONS = List.of(
            new Call("rowOf(0, 0)", x -> x.rowOf(0, 0)),
            new Call("known(0, 1)", x -> x.known(0, 1)),
            new Call("statementOf(0, 0)", x -> x.statementOf(0, 0)),
            new Call("latest(0)", x -> x.latest(0)),
            new Call("planOf(0, 0)", x -> x.planOf(0, 0)),
            new Call("planFor(0, 1)", x -> x.planFor(0, 1)),
            new Call("dropsNext(0)", x -> x.dropsNext(0)),
            new Call("count(5)", x -> x.count(5)),
            new Call("classOf(0, 1, 0, 0, 0)", x -> x.classOf(0, 1, 0, 0, 0)),
            new Call("way(0, 1, 0, 0, 0)", x -> x.way(0, 1, 0, 0, 0)),
            new Call("bestCost()", x -> x.bestCost()),
            new Call("fault(0)", x -> x.fault(0)));

    private static final List<Call> CALLS_OF_TEXTS = List.of(
            new Call("type('z')", x -> x.type('z')),
            new Call("clearText()", x -> x.clearText()));

    public static void main(String[] args) {
        changes();
        callsThatAreNoChanges();
        atMostFourStates();
        everythingButTheText();
        theOldestStateIsDropped();
        invalidRatherThanNotPossible();
        notPossibleRatherThanLimit();
        limitRatherThanNotFound();
        errorsChangeNothing();
        valuesOfConditionsThatThereAreNot();
        noSuchStatement();
        noSuchPlan();
        constants();
        due.end();
    }

    /** Two statements, three rows, an index, statistics, three plans of which one is pinned; a text with a fault. */
    private static PlanShelves rich() {
        PlanShelves x = Due.with("a=?", "b<?&c>?");
        x.row(1, 2, 3, 4, 10);
        x.row(2, 2, 2, 2, 90);
        x.analyse();
        x.index(0, 1);
        x.run(0, 1, 0, 0, 0);
        x.run(0, 2, 0, 0, 0);
        x.run(1, 3, 1, 0, 0);
        x.pin(0, 1);
        x.row(5, 5, 5, 5, 5);
        Due.type(x, "a=?&");
        return x;
    }

    /** As many rows, statements, plans and characters as there may be. */
    private static PlanShelves full() {
        PlanShelves x = Due.six();
        Due.rows(x, 30, 1, 999);
        x.analyse();
        x.set(4, 8);
        for (int number = 0; number < 8; number++) {
            x.run(number / 2, 1 + number % 2, 0, 0, 0);
        }
        x.pin(3, 1);
        Due.type(x, "a=?&a=?&a=?&a=?&a=?&a=?&a=?&a=");
        return x;
    }

    /** A full cache, whose last plan was made in the place of the plan 1. */
    private static PlanShelves crowded() {
        PlanShelves x = Due.six();
        x.set(3, 1);
        Due.runFirst(x, 4);
        x.run(0, 0, 0, 0, 0);
        x.pin(0, 1);
        x.run(4, 0, 0, 0, 0);
        return x;
    }

    /** The same, where each run throws its plan away. */
    private static PlanShelves surprising() {
        PlanShelves x = crowded();
        x.row(1, 1, 1, 1, 1);
        return x;
    }

    /** The text of a seventh statement. */
    private static PlanShelves seventh() {
        PlanShelves x = Due.six();
        x.run(2, 0, 0, 0, 0);
        Due.type(x, "c<?");
        return x;
    }

    private static void changes() {
        due.sentence(HEADING, "The changes are the calls of row, dropRow, index, analyse, statement, run, pin, drop and set that return no error.");
        for (Call call : CHANGES) {
            recordsAState(call);
        }
        for (Call call : CHANGES_OF_NOTHING) {
            recordsAState(call);
        }
    }

    private static void recordsAState(Call call) {
        PlanShelves x = rich();
        due.is("undo()", 3, x.undo());
        due.is(call.name() + " is no error", 1, call.answer().applyAsInt(x) >= 0 ? 1 : 0);
        due.is("count(12) behind " + call.name(), 4, x.count(12));
        due.is("undo() behind " + call.name(), 3, x.undo());
    }

    private static void callsThatAreNoChanges() {
        due.sentence(HEADING, "dropRow, index, analyse, statement, run, pin, drop and set that return no error");
        PlanShelves x = rich();
        x.undo();
        due.is("count(12)", 3, x.count(12));
        for (Call call : QUESTIONS) {
            due.is(call.name() + " is no error", 1, call.answer().applyAsInt(x) >= 0 ? 1 : 0);
            due.is("count(12) behind " + call.name(), 3, x.count(12));
        }
        for (Call call : CALLS_OF_TEXTS) {
            due.is(call.name() + " is no error", 1, call.answer().applyAsInt(x) >= 0 ? 1 : 0);
            due.is("count(12) behind " + call.name(), 3, x.count(12));
        }
        due.is("undo()", 2, x.undo());
    }

    private static void atMostFourStates() {
        due.sentence(HEADING, "A history of at most 4 states is kept");
        PlanShelves x = new PlanShelves();
        due.is("count(12), a new object", 0, x.count(12));
        for (int change = 1; change <= 20; change++) {
            x.row(change, 0, 0, 0, 1);
            due.is("count(12), " + change + " changes", Math.min(change, 4), x.count(12));
        }
        due.list("undo() number %", ignored -> x.undo(), 3, 2, 1, 0, NOT_POSSIBLE);
        due.is("count(0)", 16, x.count(0));
    }

    private static void everythingButTheText() {
        due.sentence(HEADING, "each change records everything before it but the text");
        for (Call call : CHANGES) {
            isUndone(EdgesOfChangesTest::rich, call);
        }
        isUndone(EdgesOfChangesTest::crowded, new Call("run(1, 0, 0, 0, 0), a plan is dropped", x -> x.run(1, 0, 0, 0, 0)));
        isUndone(EdgesOfChangesTest::crowded, new Call("run(2, 0, 0, 0, 0), the plan is there", x -> x.run(2, 0, 0, 0, 0)));
        isUndone(EdgesOfChangesTest::surprising, new Call("run(0, 0, 0, 0, 0), a pinned plan is thrown away", x -> x.run(0, 0, 0, 0, 0)));
        isUndone(EdgesOfChangesTest::surprising, new Call("run(5, 0, 0, 0, 0), one dropped, one thrown away", x -> x.run(5, 0, 0, 0, 0)));
        PlanShelves all = rich();
        all.set(3, 1);
        all.dropRow(1);
        PlanShelves kept = rich();
        kept.set(3, 1);
        kept.dropRow(1);
        all.row(2, 2, 2, 2, 999);
        all.run(0, 2, 0, 0, 0);
        all.index(0, 0);
        all.run(1, 0, 0, 0, 0);
        for (int undone = 0; undone < 4; undone++) {
            all.undo();
        }
        due.same("behind four changes and four times undo()", Seen.of(kept, false), Seen.of(all, false));
    }

    /** Every call behind undo() is answered as if the change had not been; with the text that was typed behind it. */
    private static void isUndone(Supplier<PlanShelves> state, Call call) {
        PlanShelves x = state.get();
        due.is(call.name() + " is no error", 1, call.answer().applyAsInt(x) >= 0 ? 1 : 0);
        Due.type(x, "c=?z");
        x.undo();
        PlanShelves before = state.get();
        Due.type(before, "c=?z");
        due.same("behind " + call.name() + " and undo()", Seen.of(before, false), Seen.of(x, false));
        due.is("run behind it", before.run(1, 2, 0, 0, 0), x.run(1, 2, 0, 0, 0));
        due.is("latest(1), the next number", before.latest(1), x.latest(1));
    }

    private static void theOldestStateIsDropped() {
        due.sentence(HEADING, "if there are 5 states then, the oldest one is dropped");
        PlanShelves x = new PlanShelves();
        for (int change = 0; change < 5; change++) {
            x.set(0, 100 + change);
        }
        due.is("count(12)", 4, x.count(12));
        for (int left = 3; left >= 0; left--) {
            due.is("undo()", left, x.undo());
            due.is("count(20)", 100 + left, x.count(20));
        }
        due.is("undo(), the state of the new object is dropped", NOT_POSSIBLE, x.undo());
        due.is("count(20)", 100, x.count(20));
        for (int change = 0; change < 4; change++) {
            x.set(0, 200 + change);
        }
        due.list("undo() number %", ignored -> x.undo(), 3, 2, 1, 0, NOT_POSSIBLE);
        due.is("count(20), four changes can all be undone", 100, x.count(20));
    }

    private static void invalidRatherThanNotPossible() {
        due.sentence(HEADING, "If several errors apply to a call, INVALID_ARGUMENT is returned rather than NOT_POSSIBLE");
        PlanShelves x = Due.six();
        due.each("index(%, 0), where none can be", INVALID, column -> x.index(column, 0), -1, 4, 32, MIN, MAX);
        x.index(0, 1);
        due.each("index(0, %), where there is one", INVALID, is -> x.index(0, is), -1, 2, 3, MIN, MAX);
        x.run(0, 0, 0, 0, 0);
        x.pin(0, 1);
        due.each("drop(%), the plan 0 is pinned", INVALID, plan -> x.drop(plan), -1, 1, MIN, MAX);
        Due.rows(x, 30, 0, 1);
        due.is("row of a wrong weight, 30 are there", INVALID, x.row(0, 0, 0, 0, 0));
        due.is("row of a wrong value, 30 are there", INVALID, x.row(0, 0, 0, 32, 1));
        Due.type(x, "zzzzzzzzzzzzzzzzzzzzzzzzzzzzzz");
        due.each("type(%), 30 are there", INVALID, character -> x.type(character), 31, 127);
    }

    private static void notPossibleRatherThanLimit() {
        due.sentence(HEADING, "NOT_POSSIBLE rather than LIMIT_REACHED");
        PlanShelves x = seventh();
        due.is("statement(), six others", LIMIT, x.statement());
        x.type('&');
        due.is("statement(), six others and a fault", NOT_POSSIBLE, x.statement());
        x.clearText();
        due.is("statement(), six others and no text", NOT_POSSIBLE, x.statement());
    }

    private static void limitRatherThanNotFound() {
        due.sentence(HEADING, "and LIMIT_REACHED rather than NOT_FOUND");
        PlanShelves x = new PlanShelves();
        due.is("latest(8), no run", INVALID, x.latest(8));
        due.is("dropsNext(-1), no plan", INVALID, x.dropsNext(-1));
        due.is("planFor(0, 0), no statement", INVALID, x.planFor(0, 0));
        Due.statement(x, "a=?");
        due.is("planFor(0, 81), no plan", INVALID, x.planFor(0, 81));
        due.is("statementOf(0, 14), no condition", INVALID, x.statementOf(0, 14));
        due.is("statementOf(1, 13), no statement", INVALID, x.statementOf(1, 13));
        due.is("fault(2), no fault", INVALID, x.fault(2));
        PlanShelves full = full();
        due.is("type('z'), the text is full and no statement", LIMIT, full.type('z'));
        PlanShelves seventh = seventh();
        due.is("statement(), there is none with this text, and no place", LIMIT, seventh.statement());
    }

    /** A call that is refused in a state, with the error that is due. */
    private record Refused(int error, Supplier<PlanShelves> state, Call call) { }

    private static Refused refused(int error, Supplier<PlanShelves> state, String name, ToIntFunction<PlanShelves> answer) {
        return new Refused(error, state, new Call(name, answer));
    }

    private static List<Refused> refusedChanges() {
        return List.of(
                refused(INVALID, EdgesOfChangesTest::rich, "row(32, 0, 0, 0, 1)", x -> x.row(32, 0, 0, 0, 1)),
                refused(INVALID, EdgesOfChangesTest::rich, "row(0, 0, 0, -1, 1)", x -> x.row(0, 0, 0, -1, 1)),
                refused(INVALID, EdgesOfChangesTest::rich, "row(9, 9, 9, 9, 1000)", x -> x.row(9, 9, 9, 9, 1000)),
                refused(LIMIT, EdgesOfChangesTest::full, "row(9, 9, 9, 9, 9)", x -> x.row(9, 9, 9, 9, 9)),
                refused(INVALID, EdgesOfChangesTest::rich, "dropRow(3)", x -> x.dropRow(3)),
                refused(INVALID, EdgesOfChangesTest::rich, "dropRow(-1)", x -> x.dropRow(-1)),
                refused(INVALID, EdgesOfChangesTest::rich, "index(4, 1)", x -> x.index(4, 1)),
                refused(INVALID, EdgesOfChangesTest::rich, "index(0, 2)", x -> x.index(0, 2)),
                refused(NOT_POSSIBLE, EdgesOfChangesTest::rich, "index(0, 1)", x -> x.index(0, 1)),
                refused(NOT_POSSIBLE, EdgesOfChangesTest::rich, "index(1, 0)", x -> x.index(1, 0)),
                refused(NOT_POSSIBLE, EdgesOfChangesTest::rich, "statement()", x -> x.statement()),
                refused(LIMIT, EdgesOfChangesTest::seventh, "statement()", x -> x.statement()),
                refused(INVALID, EdgesOfChangesTest::rich, "run(2, 0, 0, 0, 0)", x -> x.run(2, 0, 0, 0, 0)),
                refused(INVALID, EdgesOfChangesTest::rich, "run(0, 32, 0, 0, 0)", x -> x.run(0, 32, 0, 0, 0)),
                refused(INVALID, EdgesOfChangesTest::rich, "run(1, 0, 0, 0, 1)", x -> x.run(1, 0, 0, 0, 1)),
                refused(INVALID, EdgesOfChangesTest::rich, "pin(3, 1)", x -> x.pin(3, 1)),
                refused(INVALID, EdgesOfChangesTest::rich, "pin(0, 2)", x -> x.pin(0, 2)),
                refused(INVALID, EdgesOfChangesTest::rich, "drop(3)", x -> x.drop(3)),
                refused(NOT_POSSIBLE, EdgesOfChangesTest::rich, "drop(0)", x -> x.drop(0)),
                refused(INVALID, EdgesOfChangesTest::rich, "set(5, 1)", x -> x.set(5, 1)),
                refused(INVALID, EdgesOfChangesTest::rich, "set(4, 9)", x -> x.set(4, 9)));
    }

    private static List<Refused> refusedQuestions() {
        return List.of(
                refused(INVALID, EdgesOfChangesTest::rich, "rowOf(0, 5)", x -> x.rowOf(0, 5)),
                refused(INVALID, EdgesOfChangesTest::rich, "known(4, 0)", x -> x.known(4, 0)),
                refused(INVALID, EdgesOfChangesTest::rich, "statementOf(0, 3)", x -> x.statementOf(0, 3)),
                refused(NOT_FOUND, EdgesOfChangesTest::rich, "statementOf(0, 11)", x -> x.statementOf(0, 11)),
                refused(INVALID, EdgesOfChangesTest::rich, "latest(8)", x -> x.latest(8)),
                refused(NOT_FOUND, EdgesOfChangesTest::rich, "latest(7)", x -> x.latest(7)),
                refused(NOT_FOUND, PlanShelves::new, "latest(0)", x -> x.latest(0)),
                refused(INVALID, EdgesOfChangesTest::rich, "planOf(0, 8)", x -> x.planOf(0, 8)),
                refused(INVALID, EdgesOfChangesTest::rich, "planFor(0, 81)", x -> x.planFor(0, 81)),
                refused(NOT_FOUND, EdgesOfChangesTest::rich, "planFor(0, 80)", x -> x.planFor(0, 80)),
                refused(INVALID, EdgesOfChangesTest::rich, "dropsNext(-1)", x -> x.dropsNext(-1)),
                refused(NOT_FOUND, EdgesOfChangesTest::rich, "dropsNext(2)", x -> x.dropsNext(2)),
                refused(INVALID, EdgesOfChangesTest::rich, "count(14)", x -> x.count(14)),
                refused(INVALID, EdgesOfChangesTest::rich, "classOf(0, 0, 1, 0, 0)", x -> x.classOf(0, 0, 1, 0, 0)),
                refused(INVALID, EdgesOfChangesTest::rich, "way(0, 0, 1, 0, 0)", x -> x.way(0, 0, 1, 0, 0)),
                refused(NOT_FOUND, PlanShelves::new, "bestCost()", x -> x.bestCost()),
                refused(NOT_POSSIBLE, PlanShelves::new, "undo()", x -> x.undo()),
                refused(INVALID, EdgesOfChangesTest::rich, "type(127)", x -> x.type(127)),
                refused(LIMIT, EdgesOfChangesTest::full, "type('z')", x -> x.type('z')),
                refused(INVALID, EdgesOfChangesTest::rich, "fault(2)", x -> x.fault(2)),
                refused(NOT_FOUND, EdgesOfChangesTest::seventh, "fault(0)", x -> x.fault(0)));
    }

    private static void errorsChangeNothing() {
        due.sentence(HEADING, "A call that returns an error changes nothing.");
        for (Refused refused : refusedChanges()) {
            changesNothing(refused);
        }
        for (Refused refused : refusedQuestions()) {
            changesNothing(refused);
        }
    }

    /** Neither what is told then, nor what is told when the states of the history are restored. */
    private static void changesNothing(Refused refused) {
        for (int undone = 0; undone <= 4; undone++) {
            PlanShelves x = refused.state().get();
            PlanShelves twin = refused.state().get();
            due.is(refused.call().name(), refused.error(), refused.call().answer().applyAsInt(x));
            for (int time = 0; time < undone; time++) {
                due.is("undo() behind " + refused.call().name(), twin.undo(), x.undo());
            }
            due.same("behind " + refused.call().name() + " and " + undone + " times undo()",
                    Seen.of(twin, true), Seen.of(x, true));
        }
    }

    private static void valuesOfConditionsThatThereAreNot() {
        due.sentence(HEADING, "those of conditions that there are not must be 0 (INVALID_ARGUMENT otherwise)");
        PlanShelves x = Due.with("a=?", "a=?&b=?", "a=?&b=?&c=?", "a=?&b=?&c=?&d=?");
        for (int statement = 0; statement < 4; statement++) {
            for (int k = 0; k < 4; k++) {
                for (int value : new int[] {0, 1, 31, -1, 32, MIN, MAX}) {
                    boolean right = k <= statement ? value >= 0 && value <= 31 : value == 0;
                    fourValues(x, statement, new int[] {k == 0 ? value : 0, k == 1 ? value : 0,
                        k == 2 ? value : 0, k == 3 ? value : 0}, right);
                }
            }
        }
    }

    private static void fourValues(PlanShelves x, int statement, int[] v, boolean right) {
        String call = "(" + statement + ", " + v[0] + ", " + v[1] + ", " + v[2] + ", " + v[3] + ")";
        due.is("run" + call, right ? 0 : INVALID, x.run(statement, v[0], v[1], v[2], v[3]));
        due.is("classOf" + call, right ? 0 : INVALID, x.classOf(statement, v[0], v[1], v[2], v[3]));
        due.is("way" + call, right ? 9 : INVALID, x.way(statement, v[0], v[1], v[2], v[3]));
    }

    private static void noSuchStatement() {
        due.sentence(HEADING, "If there is no statement or plan with a certain number, this is INVALID_ARGUMENT.");
        PlanShelves x = new PlanShelves();
        noStatement(x, 0, -1, 1, MIN, MAX);
        Due.statement(x, "a=?");
        Due.statement(x, "b=?");
        due.is("statementOf(1, 0)", 1, x.statementOf(1, 0));
        noStatement(x, -1, 2, 5, 6, NOT_FOUND, MIN, MAX);
        x.undo();
        noStatement(x, 1, 2);
        PlanShelves full = Due.six();
        due.is("run(5, 0, 0, 0, 0)", 0, full.run(5, 0, 0, 0, 0));
        noStatement(full, -1, 6, 7, MIN, MAX);
    }

    private static void noStatement(PlanShelves x, int... numbers) {
        due.each("statementOf(%, 0)", INVALID, number -> x.statementOf(number, 0), numbers);
        due.each("run(%, 0, 0, 0, 0)", INVALID, number -> x.run(number, 0, 0, 0, 0), numbers);
        due.each("planFor(%, 0)", INVALID, number -> x.planFor(number, 0), numbers);
        due.each("classOf(%, 0, 0, 0, 0)", INVALID, number -> x.classOf(number, 0, 0, 0, 0), numbers);
        due.each("way(%, 0, 0, 0, 0)", INVALID, number -> x.way(number, 0, 0, 0, 0), numbers);
    }

    private static void noSuchPlan() {
        due.sentence(HEADING, "no statement or plan with a certain number, this is INVALID_ARGUMENT");
        PlanShelves x = Due.six();
        noPlan(x, 0, -1, 1, NOT_FOUND, MIN, MAX);
        Due.runFirst(x, 4);
        noPlan(x, -1, 4, 8, NOT_FOUND, MIN, MAX);
        x.drop(1);
        noPlan(x, 1);
        x.run(4, 0, 0, 0, 0);
        x.run(5, 0, 0, 0, 0);
        due.is("latest(7)", 0, x.latest(7));
        noPlan(x, 0, 1, 6);
        Due.rows(x, 1, 1, 1);
        x.set(3, 1);
        x.run(3, 0, 0, 0, 0);
        due.is("latest(6)", 1, x.latest(6));
        noPlan(x, 3);
        due.order(x, 2, 4, 5);
        PlanShelves loose = Due.six();
        loose.set(4, 1);
        loose.run(0, 0, 0, 0, 0);
        loose.pin(0, 1);
        loose.run(1, 0, 0, 0, 0);
        noPlan(loose, NOT_FOUND, -1, 1);
    }

    private static void noPlan(PlanShelves x, int... numbers) {
        due.each("planOf(%, 0)", INVALID, number -> x.planOf(number, 0), numbers);
        due.each("pin(%, 1)", INVALID, number -> x.pin(number, 1), numbers);
        due.each("drop(%)", INVALID, number -> x.drop(number), numbers);
    }

    private static void constants() {
        due.sentence(HEADING, "`INVALID_ARGUMENT = -1`: An argument is out of its range, or there is no such statement or plan.");
        PlanShelves x = new PlanShelves();
        due.is("INVALID_ARGUMENT", -1, INVALID);
        due.is("row(32, 0, 0, 0, 1)", -1, x.row(32, 0, 0, 0, 1));
        due.is("statementOf(0, 0)", -1, x.statementOf(0, 0));
        due.is("planOf(0, 0)", -1, x.planOf(0, 0));
        due.sentence(HEADING, "`NOT_POSSIBLE = -2`: The call is not possible in the present state.");
        due.is("NOT_POSSIBLE", -2, NOT_POSSIBLE);
        due.is("undo()", -2, x.undo());
        due.is("statement()", -2, x.statement());
        due.is("index(0, 0)", -2, x.index(0, 0));
        due.sentence(HEADING, "`LIMIT_REACHED = -3`: A fixed limit has been reached.");
        due.is("LIMIT_REACHED", -3, LIMIT);
        Due.rows(x, 30, 0, 1);
        due.is("row, 30 are there", -3, x.row(0, 0, 0, 0, 1));
        due.is("statement(), 6 are there", -3, seventh().statement());
        due.is("type(32), 30 are there", -3, full().type(32));
        due.sentence(HEADING, "`NOT_FOUND = -4`: There is no such value.");
        due.is("NOT_FOUND", -4, NOT_FOUND);
        due.is("latest(0)", -4, x.latest(0));
        due.is("bestCost()", -4, x.bestCost());
        due.is("dropsNext(0)", -4, x.dropsNext(0));
    }
}
