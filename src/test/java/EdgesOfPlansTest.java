/** The sentences of 'Plans' that name a boundary case, each with a test of its own. */
public final class EdgesOfPlansTest {
    private static final int INVALID = PlanShelves.INVALID_ARGUMENT;
    private static final int NOT_FOUND = PlanShelves.NOT_FOUND;
    private static final int WHOLE = 9;
    private static final Due due = new Due("EdgesOfPlansTest");

    public static void main(String[] args) {
        byIndexOrAsAWhole();
        costs();
        costsTruly();
        costsLeast();
        wholeLast();
        valuesThatAreGivenThen();
        atMostSettingFour();
        oneForEachStatementAndClass();
        numberedByTheirMaking();
        numberNotUsedAgain();
        droppedOneByOne();
        pinnedOnesAreNotDropped();
        fewestUses();
        usedLastTheLongestAgo();
        allPinned();
        surpriseOfOneThatIsNotKept();
        thoseDroppedStaySo();
        planForItsClass();
        countsAsAUse();
        surpriseAboveTheBound();
        surprisesBehindASurprise();
        alsoAPinnedOne();
        indexDropped();
        nothingThrownAway();
        due.end();
    }

    private static void byIndexOrAsAWhole() {
        due.sentence("Plans", "by an index, for a condition whose column has one, or as a whole");
        PlanShelves x = Due.with("a=?&b=?&c=?&d=?", "a=?&b=?&c=?");
        Due.rows(x, 1, 1, 500);
        x.analyse();
        due.is("no index", WHOLE, x.way(0, 0, 0, 0, 0));
        x.index(3, 1);
        due.is("an index for the condition 3 alone", 3, x.way(0, 0, 0, 0, 0));
        due.is("an index on a column without a condition", WHOLE, x.way(1, 0, 0, 0, 0));
        x.index(0, 1);
        due.is("an index for the condition 0 too", 0, x.way(0, 0, 0, 0, 0));
        x.index(3, 0);
        x.index(0, 0);
        due.is("no index any more", WHOLE, x.way(0, 0, 0, 0, 0));
    }

    private static void costs() {
        due.sentence("Plans", "by an index 10 plus the weights of rows for which this condition holds; as a whole the size of the table");
        PlanShelves x = Due.with("a<?", "b=?");
        x.run(1, 0, 0, 0, 0);
        due.is("latest(3), as a whole, an empty table", 0, x.latest(3));
        due.is("latest(4)", 0, x.latest(4));
        x.row(31, 0, 0, 0, 999);
        x.analyse();
        x.index(0, 1);
        x.run(0, 31, 0, 0, 0);
        due.is("latest(3), by an index, no row", 10, x.latest(3));
        due.is("latest(4)", 10, x.latest(4));
        x.dropRow(0);
        x.run(0, 31, 0, 0, 0);
        due.is("latest(4), by an index, an empty table", 10, x.latest(4));
        Due.rows(x, 30, 0, 999);
        x.run(0, 31, 0, 0, 0);
        due.is("latest(2), by the index", 0, x.latest(2));
        due.is("latest(4), all of a full table", 29980, x.latest(4));
        x.run(1, 9, 0, 0, 0);
        due.is("latest(4), as a whole, a full table", 29970, x.latest(4));
    }

    private static void costsTruly() {
        due.sentence("Plans", "(Truly: by the rows as they are.)");
        PlanShelves x = Due.with("a=?");
        x.row(1, 0, 0, 0, 100);
        x.analyse();
        x.run(0, 1, 0, 0, 0);
        x.dropRow(0);
        x.run(0, 1, 0, 0, 0);
        due.is("latest(3), by the statistics", 100, x.latest(3));
        due.is("latest(4), no row any more", 0, x.latest(4));
        x.row(2, 0, 0, 0, 300);
        x.run(0, 1, 0, 0, 0);
        due.is("latest(3)", 100, x.latest(3));
        due.is("latest(4), other rows", 300, x.latest(4));
    }

    /** By the index on a column 10 with the value 0, and 20 with the value 1; as a whole 10. */
    private static PlanShelves tenRows() {
        PlanShelves x = Due.with("a=?&b=?&c=?&d=?");
        due.each("index(%, 1)", 0, column -> x.index(column, 1), 0, 1, 2, 3);
        Due.rows(x, 1, 1, 10);
        x.analyse();
        return x;
    }

    private static void costsLeast() {
        due.sentence("Plans", "the way that costs least by statistics, of several the condition with the lowest number");
        PlanShelves x = tenRows();
        due.is("10, 10, 10, 10", 0, x.way(0, 0, 0, 0, 0));
        due.is("20, 10, 10, 10", 1, x.way(0, 1, 0, 0, 0));
        due.is("20, 20, 10, 10", 2, x.way(0, 1, 1, 0, 0));
        due.is("20, 20, 20, 10", 3, x.way(0, 1, 1, 1, 0));
        due.is("20, 10, 20, 10", 1, x.way(0, 1, 0, 1, 0));
        x.index(0, 0);
        due.is("no index, 10, 10, 10", 1, x.way(0, 0, 0, 0, 0));
        Due.rows(x, 1, 2, 999);
        due.is("by the statistics, not by the rows", 1, x.way(0, 0, 0, 0, 0));
        x.run(0, 1, 1, 0, 0);
        due.is("latest(2)", 2, x.latest(2));
        due.is("latest(3)", 10, x.latest(3));
    }

    private static void wholeLast() {
        due.sentence("Plans", "the whole last (only if it costs less than all others). This is its estimate.");
        PlanShelves x = tenRows();
        x.run(0, 1, 1, 1, 0);
        due.is("latest(2), 20, 20, 20, 10, as a whole 10", 3, x.latest(2));
        due.is("latest(3)", 10, x.latest(3));
        x.run(0, 1, 1, 1, 1);
        due.is("latest(2), four times 20, as a whole 10", WHOLE, x.latest(2));
        due.is("latest(3)", 10, x.latest(3));
        x.dropRow(0);
        Due.rows(x, 1, 1, 9);
        x.analyse();
        due.is("four times 10, as a whole 9", WHOLE, x.way(0, 0, 0, 0, 0));
        x.dropRow(0);
        x.analyse();
        due.is("four times 10, as a whole 0", WHOLE, x.way(0, 0, 0, 0, 0));
        Due.rows(x, 1, 1, 11);
        x.analyse();
        due.is("21, 21, 21, 10, as a whole 11", 3, x.way(0, 1, 1, 1, 0));
    }

    private static void valuesThatAreGivenThen() {
        due.sentence("Plans", "A plan is made for a statement and a class, with the values that are given then");
        PlanShelves x = Due.with("a=?");
        x.row(1, 0, 0, 0, 400);
        x.row(2, 0, 0, 0, 399);
        x.analyse();
        x.index(0, 1);
        x.run(0, 2, 0, 0, 0);
        due.is("latest(3)", 409, x.latest(3));
        x.run(0, 1, 0, 0, 0);
        due.is("latest(0), another value of the same class", 2, x.latest(0));
        due.is("latest(1)", 0, x.latest(1));
        due.is("latest(3), as it was made", 409, x.latest(3));
        due.is("latest(4)", 410, x.latest(4));
        x.run(0, 3, 0, 0, 0);
        due.is("latest(0), a value of another class", 0, x.latest(0));
        due.is("latest(1)", 1, x.latest(1));
        due.is("latest(3)", 10, x.latest(3));
    }

    /** Each of the six statements has two classes, that of the value 1 and that of the value 2. */
    private static PlanShelves twelvePlans() {
        PlanShelves x = Due.six();
        Due.rows(x, 1, 1, 1);
        x.analyse();
        return x;
    }

    private static void atMostSettingFour() {
        due.sentence("Plans", "The cache keeps at most setting 4 plans");
        for (int most : new int[] {1, 4, 8}) {
            PlanShelves x = twelvePlans();
            x.set(4, most);
            for (int number = 0; number < 12; number++) {
                x.run(number / 2, 1 + number % 2, 0, 0, 0);
                due.is("latest(1), at most " + most, number, x.latest(1));
                due.is("count(5), at most " + most, Math.min(number + 1, most), x.count(5));
            }
            due.is("count(9), at most " + most, 12 - most, x.count(9));
        }
    }

    private static void oneForEachStatementAndClass() {
        due.sentence("Plans", "at most one for each statement and class");
        PlanShelves x = twelvePlans();
        x.run(0, 2, 0, 0, 0);
        x.run(0, 3, 0, 0, 0);
        x.run(0, 31, 0, 0, 0);
        due.is("count(5), one class", 1, x.count(5));
        x.run(0, 1, 0, 0, 0);
        due.is("count(5), another class", 2, x.count(5));
        x.run(1, 2, 0, 0, 0);
        due.is("count(5), the same class of another statement", 3, x.count(5));
        due.is("planFor(0, 0)", 0, x.planFor(0, 0));
        due.is("planFor(0, 2)", 1, x.planFor(0, 2));
        due.is("planFor(1, 0)", 2, x.planFor(1, 0));
    }

    private static void numberedByTheirMaking() {
        due.sentence("Plans", "Plans are numbered from 0 by their making");
        PlanShelves x = Due.six();
        for (int statement = 5; statement >= 0; statement--) {
            x.run(statement, 0, 0, 0, 0);
            due.is("latest(1)", 5 - statement, x.latest(1));
            x.run(statement, 0, 0, 0, 0);
            due.is("latest(1), it is there", 5 - statement, x.latest(1));
        }
    }

    private static void numberNotUsedAgain() {
        due.sentence("Plans", "a number is not used again");
        PlanShelves x = Due.six();
        x.set(4, 1);
        nextPlanIs(x, 0, 0);
        x.drop(0);
        nextPlanIs(x, 0, 1);
        nextPlanIs(x, 1, 2);
        due.is("latest(7), dropped for it", 1, x.latest(7));
        Due.rows(x, 1, 1, 100);
        x.set(3, 1);
        x.run(1, 0, 0, 0, 0);
        due.is("count(5), thrown away for a surprise", 0, x.count(5));
        nextPlanIs(x, 1, 3);
        due.is("count(5), thrown away at once", 0, x.count(5));
        x.analyse();
        x.index(0, 1);
        nextPlanIs(x, 0, 4);
        due.is("index(0, 0), thrown away with it", 1, x.index(0, 0));
        nextPlanIs(x, 0, 5);
        x.pin(5, 1);
        nextPlanIs(x, 1, NOT_FOUND);
        x.pin(5, 0);
        nextPlanIs(x, 1, 6);
    }

    private static void nextPlanIs(PlanShelves x, int statement, int plan) {
        x.run(statement, 0, 0, 0, 0);
        due.is("latest(1)", plan, x.latest(1));
    }

    private static void droppedOneByOne() {
        due.sentence("Plans",
                "the cache keeps setting 4 plans or more, plans that are not pinned are dropped first, one by one, until it keeps fewer");
        PlanShelves x = Due.six();
        Due.runFirst(x, 4);
        due.is("count(9), fewer than 4 when the fourth was made", 0, x.count(9));
        x.run(4, 0, 0, 0, 0);
        due.is("count(9), 4 when the fifth was made", 1, x.count(9));
        due.is("latest(7)", 0, x.latest(7));
        due.is("count(5)", 4, x.count(5));
        PlanShelves more = Due.six();
        more.set(4, 8);
        Due.runFirst(more, 5);
        more.set(4, 3);
        more.run(4, 0, 0, 0, 0);
        due.is("count(9), none is made", 0, more.count(9));
        more.run(5, 0, 0, 0, 0);
        due.is("count(9), 5 where 2 may be", 3, more.count(9));
        due.is("latest(7), the first one", 0, more.latest(7));
        due.is("count(5)", 3, more.count(5));
        due.order(more, 3, 5, 4);
        more.set(4, 1);
        more.run(0, 0, 0, 0, 0);
        due.is("count(9), all of them", 6, more.count(9));
        due.is("latest(7)", 3, more.latest(7));
        due.order(more, 6);
    }

    private static void pinnedOnesAreNotDropped() {
        due.sentence("Plans", "plans that are not pinned are dropped first");
        PlanShelves x = Due.six();
        Due.runFirst(x, 4);
        x.pin(0, 1);
        x.pin(1, 1);
        x.pin(2, 1);
        x.run(3, 0, 0, 0, 0);
        x.run(4, 0, 0, 0, 0);
        due.is("latest(7), the only one that is not pinned", 3, x.latest(7));
        due.is("latest(5)", 1, x.latest(5));
        due.is("count(6)", 3, x.count(6));
        x.pin(1, 0);
        x.run(4, 0, 0, 0, 0);
        x.run(5, 0, 0, 0, 0);
        due.is("latest(7), not pinned any more", 1, x.latest(7));
    }

    private static void fewestUses() {
        due.sentence("Plans", "always the one with the fewest uses");
        PlanShelves x = Due.six();
        x.set(4, 3);
        Due.runFirst(x, 3);
        x.run(0, 0, 0, 0, 0);
        x.run(2, 0, 0, 0, 0);
        x.run(2, 0, 0, 0, 0);
        x.run(1, 0, 0, 0, 0);
        x.run(1, 0, 0, 0, 0);
        x.run(1, 0, 0, 0, 0);
        due.order(x, 0, 2, 1);
        x.run(3, 0, 0, 0, 0);
        due.is("latest(7), of 2, 4 and 3 uses", 0, x.latest(7));
        x.run(4, 0, 0, 0, 0);
        due.is("latest(7), the newest with one use", 3, x.latest(7));
    }

    private static void usedLastTheLongestAgo() {
        due.sentence("Plans", "of several the one that was used last the longest ago");
        PlanShelves x = Due.six();
        x.set(4, 3);
        Due.runFirst(x, 3);
        due.order(x, 0, 1, 2);
        x.run(2, 0, 0, 0, 0);
        x.run(1, 0, 0, 0, 0);
        x.run(0, 0, 0, 0, 0);
        due.order(x, 2, 1, 0);
        x.run(3, 0, 0, 0, 0);
        due.is("latest(7), not the one that was made first", 2, x.latest(7));
        x.run(3, 0, 0, 0, 0);
        x.run(4, 0, 0, 0, 0);
        due.is("latest(7), of 1, 0 and 3 with two uses each", 1, x.latest(7));
    }

    private static void allPinned() {
        due.sentence("Plans", "If it still keeps as many, as all are pinned, the new plan is used, but not kept, and has no number");
        PlanShelves x = Due.six();
        Due.rows(x, 1, 3, 7);
        x.analyse();
        x.set(4, 2);
        x.run(0, 3, 0, 0, 0);
        x.run(1, 3, 0, 0, 0);
        x.pin(0, 1);
        x.pin(1, 1);
        due.is("run(2, 3, ..)", 7, x.run(2, 3, 0, 0, 0));
        due.list("latest(%)", x::latest, 2, NOT_FOUND, WHOLE, 7, 7, 2, 0, NOT_FOUND);
        due.is("count(5)", 2, x.count(5));
        due.is("statementOf(2, 1)", 0, x.statementOf(2, 1));
        due.is("planFor(2, 2)", NOT_FOUND, x.planFor(2, 2));
        due.is("planOf(2, 0)", INVALID, x.planOf(2, 0));
        x.set(4, 1);
        x.run(2, 3, 0, 0, 0);
        due.is("latest(5), more are pinned than may be kept", 2, x.latest(5));
        x.run(1, 3, 0, 0, 0);
        due.is("latest(5), one that is there", 0, x.latest(5));
        x.set(4, 3);
        x.run(2, 3, 0, 0, 0);
        due.is("latest(5), there is room", 1, x.latest(5));
        due.is("latest(1), no number was lost", 2, x.latest(1));
        due.is("planOf(2, 4), used only since it is kept", 1, x.planOf(2, 4));
    }

    private static void surpriseOfOneThatIsNotKept() {
        due.sentence("Plans", "the new plan is used, but not kept");
        PlanShelves x = Due.six();
        x.set(4, 1);
        x.set(3, 1);
        x.run(0, 0, 0, 0, 0);
        x.pin(0, 1);
        Due.rows(x, 1, 1, 1);
        x.run(1, 0, 0, 0, 0);
        due.is("latest(5)", 2, x.latest(5));
        due.is("latest(6), it surprises as any other", 1, x.latest(6));
        due.is("count(10)", 1, x.count(10));
        due.is("count(11), it cannot be thrown away", 0, x.count(11));
        due.is("planOf(0, 5), it is no surprise of another", 0, x.planOf(0, 5));
    }

    private static void thoseDroppedStaySo() {
        due.sentence("Plans", "(those that were dropped stay so)");
        PlanShelves x = Due.six();
        Due.runFirst(x, 4);
        x.pin(1, 1);
        x.pin(3, 1);
        x.set(4, 2);
        x.run(4, 0, 0, 0, 0);
        due.is("latest(5)", 2, x.latest(5));
        due.is("latest(7), the first one of two", 0, x.latest(7));
        due.is("count(5)", 2, x.count(5));
        due.is("count(9)", 2, x.count(9));
        due.is("count(11)", 0, x.count(11));
        due.each("planOf(%, 0)", INVALID, plan -> x.planOf(plan, 0), 0, 2, 4);
        x.run(0, 0, 0, 0, 0);
        due.is("latest(5), the plan 0 is gone", 2, x.latest(5));
    }

    private static void planForItsClass() {
        due.sentence("Plans", "the plan for its class is used; if there is none, one is made");
        PlanShelves x = twelvePlans();
        x.run(0, 1, 0, 0, 0);
        due.is("latest(5), the empty cache", 1, x.latest(5));
        x.run(0, 1, 0, 0, 0);
        due.is("latest(5), the same class", 0, x.latest(5));
        x.run(0, 2, 0, 0, 0);
        due.is("latest(5), another class", 1, x.latest(5));
        x.dropRow(0);
        x.analyse();
        x.run(0, 1, 0, 0, 0);
        due.is("latest(1), the class is another by new statistics", 1, x.latest(1));
        x.drop(1);
        x.run(0, 1, 0, 0, 0);
        due.is("latest(1), there is none any more", 2, x.latest(1));
        due.is("count(8)", 2, x.count(8));
    }

    private static void countsAsAUse() {
        due.sentence("Plans", "It counts as a use of the plan (the making one too).");
        PlanShelves x = Due.six();
        x.run(0, 0, 0, 0, 0);
        due.is("planOf(0, 4), the making one", 1, x.planOf(0, 4));
        x.run(0, 31, 0, 0, 0);
        due.is("planOf(0, 4)", 2, x.planOf(0, 4));
        x.run(1, 0, 0, 0, 0);
        due.is("planOf(0, 4), another plan was used", 2, x.planOf(0, 4));
        due.is("planOf(1, 4)", 1, x.planOf(1, 4));
        x.way(0, 0, 0, 0, 0);
        x.classOf(0, 0, 0, 0, 0);
        x.run(0, 32, 0, 0, 0);
        due.is("planOf(0, 4), no run", 2, x.planOf(0, 4));
    }

    private static void surpriseAboveTheBound() {
        due.sentence("Plans", "If the true cost is above setting 2 times the estimate, this is a surprise of the plan");
        PlanShelves x = Due.with("a=?");
        x.set(3, 9);
        x.run(0, 1, 0, 0, 0);
        due.is("latest(6), 0 is not above 4 times 0", 0, x.latest(6));
        x.set(2, 99);
        Due.rows(x, 1, 1, 1);
        x.run(0, 1, 0, 0, 0);
        due.is("latest(6), 1 is above 99 times 0", 1, x.latest(6));
        x.drop(0);
        x.dropRow(0);
        Due.rows(x, 1, 1, 10);
        x.analyse();
        surpriseIs(x, 1, 0, 0);
        surpriseIs(x, 1, 1, 1);
        surpriseIs(x, 4, 30, 0);
        surpriseIs(x, 4, 31, 1);
        surpriseIs(x, 99, 980, 0);
        surpriseIs(x, 99, 981, 1);
        due.is("planOf(1, 3)", 10, x.planOf(1, 3));
        due.is("planOf(1, 5)", 3, x.planOf(1, 5));
        due.is("count(10)", 4, x.count(10));
    }

    /** The estimate is 10, the size is 10 and as much as is added. */
    private static void surpriseIs(PlanShelves x, int times, int added, int want) {
        x.set(2, times);
        boolean row = x.row(1, 1, 1, 1, added) == 1;
        x.run(0, 1, 0, 0, 0);
        due.is("latest(4)", 10 + added, x.latest(4));
        due.is("latest(6), " + (10 + added) + " and " + times + " times 10", want, x.latest(6));
        if (row) {
            x.dropRow(1);
        }
    }

    private static void surprisesBehindASurprise() {
        due.sentence("Plans", "a plan that has setting 3 surprises or more behind a surprise is thrown away");
        for (int surprises : new int[] {1, 2, 9}) {
            PlanShelves x = Due.six();
            x.set(3, surprises);
            x.run(0, 0, 0, 0, 0);
            Due.rows(x, 1, 1, 1);
            for (int time = 1; time < surprises; time++) {
                x.run(0, 0, 0, 0, 0);
                due.is("planOf(0, 5), of " + surprises, time, x.planOf(0, 5));
            }
            x.run(0, 0, 0, 0, 0);
            due.is("count(5), behind as many as " + surprises, 0, x.count(5));
            due.is("count(11)", 1, x.count(11));
        }
        PlanShelves more = Due.six();
        more.set(3, 9);
        more.run(0, 0, 0, 0, 0);
        Due.rows(more, 1, 1, 1);
        more.run(0, 0, 0, 0, 0);
        more.run(0, 0, 0, 0, 0);
        more.set(3, 1);
        due.is("planOf(0, 5), two, where one is enough now", 2, more.planOf(0, 5));
        more.dropRow(0);
        more.run(0, 0, 0, 0, 0);
        due.is("planOf(0, 5), behind a run that was none", 2, more.planOf(0, 5));
        Due.rows(more, 1, 1, 1);
        more.run(0, 0, 0, 0, 0);
        due.is("count(5), three are more than one", 0, more.count(5));
        more.run(0, 0, 0, 0, 0);
        due.is("count(5), the making run was a surprise", 0, more.count(5));
        due.is("count(11)", 2, more.count(11));
    }

    private static void alsoAPinnedOne() {
        due.sentence("Plans", "is thrown away, also a pinned one");
        PlanShelves x = Due.six();
        Due.runFirst(x, 2);
        x.pin(0, 1);
        x.pin(1, 1);
        Due.rows(x, 1, 1, 1);
        x.run(0, 0, 0, 0, 0);
        due.is("count(6), one surprise", 2, x.count(6));
        x.run(0, 0, 0, 0, 0);
        due.is("count(6), two", 1, x.count(6));
        due.is("planOf(0, 0)", INVALID, x.planOf(0, 0));
        due.is("planOf(1, 6)", 1, x.planOf(1, 6));
        due.is("count(11)", 1, x.count(11));
        x.run(0, 0, 0, 0, 0);
        due.is("planOf(2, 6), the one that is made for it", 0, x.planOf(2, 6));
    }

    private static void indexDropped() {
        due.sentence("Plans", "When an index is dropped, all plans that go by it are thrown away.");
        PlanShelves x = Due.with("b=?&b<?", "a=?", "b=?", "c=?", "b>?");
        Due.rows(x, 1, 1, 100);
        x.analyse();
        x.set(4, 8);
        x.run(3, 2, 0, 0, 0);
        x.index(0, 1);
        x.index(1, 1);
        x.run(0, 1, 0, 0, 0);
        x.run(1, 2, 0, 0, 0);
        x.run(2, 2, 0, 0, 0);
        x.run(4, 1, 0, 0, 0);
        due.is("planOf(1, 2), by the condition 1", 1, x.planOf(1, 2));
        x.pin(3, 1);
        due.is("index(1, 0): all three, also a pinned one", 3, x.index(1, 0));
        due.each("planOf(%, 0)", INVALID, plan -> x.planOf(plan, 0), 1, 3, 4);
        due.is("planOf(0, 2), as a whole", WHOLE, x.planOf(0, 2));
        due.is("planOf(2, 2), by another", 0, x.planOf(2, 2));
        due.is("count(11)", 3, x.count(11));
        x.index(2, 1);
        due.is("index(2, 0), none goes by it", 0, x.index(2, 0));
        due.is("index(0, 0)", 1, x.index(0, 0));
        due.is("count(5), the one as a whole", 1, x.count(5));
        PlanShelves other = Due.with("a=?&b=?");
        Due.rows(other, 1, 1, 100);
        other.analyse();
        other.index(0, 1);
        other.index(1, 1);
        other.run(0, 1, 2, 0, 0);
        due.is("latest(2)", 1, other.latest(2));
        due.is("index(0, 0), the plan goes by the other condition", 0, other.index(0, 0));
        due.is("index(1, 0)", 1, other.index(1, 0));
    }

    private static void nothingThrownAway() {
        due.sentence("Plans", "(Statistics, rows and settings that change throw nothing away.)");
        PlanShelves x = Due.six();
        Due.rows(x, 1, 1, 100);
        x.analyse();
        x.index(0, 1);
        for (int statement = 0; statement < 4; statement++) {
            x.run(statement, 2, 0, 0, 0);
        }
        due.is("dropRow(0), the last one", 100, x.dropRow(0));
        due.is("analyse(), an empty table", 0, x.analyse());
        for (int row = 0; row < 30; row++) {
            x.row(2, 2, 2, 2, 999);
        }
        x.analyse();
        x.set(4, 1);
        x.set(3, 1);
        x.set(2, 1);
        x.set(1, 0);
        x.set(0, 1000);
        due.is("count(5)", 4, x.count(5));
        due.is("count(9)", 0, x.count(9));
        due.is("count(11)", 0, x.count(11));
        due.list("planOf(0, %)", what -> x.planOf(0, what), 0, 0, 0, 10, 1, 0, 0, 3);
        due.list("planOf(3, %)", what -> x.planOf(3, what), 3, 0, WHOLE, 100, 1, 0, 0, 0);
    }
}
