import java.util.ArrayList;
import java.util.List;

/** All that an object tells of itself, in some 360 calls at most, none of which changes it. */
final class Seen {
    private static final int[] VALUES = {0, 1, 2, 3, 4, 5, 6, 31};
    private static final int[] OF_STATEMENTS = {0, 1, 2, 10, 11, 12, 13, 20, 21, 22, 23};
    private static final int MOST_STATEMENTS = 6;
    private static final int PLANS = 12;

    private final PlanShelves x;
    private final List<String> told = new ArrayList<>();

    private Seen(PlanShelves x) {
        this.x = x;
    }

    /** The history is left out where two objects differ in it alone. */
    static List<String> of(PlanShelves x, boolean withHistory) {
        Seen seen = new Seen(x);
        seen.counts(withHistory);
        seen.table();
        seen.statements();
        seen.plans();
        seen.runsAndText();
        return seen.told;
    }

    private void tell(String call, int answer) {
        told.add(call + " = " + answer);
    }

    private void counts(boolean withHistory) {
        for (int what = 0; what <= 24; what++) {
            if (what <= 13 && (what != 12 || withHistory) || what >= 20) {
                tell("count(" + what + ")", x.count(what));
            }
        }
    }

    private void table() {
        int rows = x.count(0);
        for (int row = 0; row < rows; row++) {
            for (int what = 0; what <= 4; what++) {
                tell("rowOf(" + row + ", " + what + ")", x.rowOf(row, what));
            }
        }
        for (int column = 0; column < 4; column++) {
            for (int value : VALUES) {
                tell("known(" + column + ", " + value + ")", x.known(column, value));
            }
        }
    }

    private void statements() {
        for (int statement = 0; statement < MOST_STATEMENTS; statement++) {
            if (x.statementOf(statement, 0) >= 0) {
                for (int what : OF_STATEMENTS) {
                    tell("statementOf(" + statement + ", " + what + ")", x.statementOf(statement, what));
                }
            }
        }
    }

    private void plans() {
        for (int plan = 0; plan < PLANS; plan++) {
            int first = x.planOf(plan, 0);
            tell("planOf(" + plan + ", 0)", first);
            for (int what = 1; what <= 7 && first >= 0; what++) {
                tell("planOf(" + plan + ", " + what + ")", x.planOf(plan, what));
            }
        }
        for (int place = 0; place < 8; place++) {
            tell("dropsNext(" + place + ")", x.dropsNext(place));
        }
    }

    private void runsAndText() {
        for (int what = 0; what <= 7; what++) {
            tell("latest(" + what + ")", x.latest(what));
        }
        tell("bestCost()", x.bestCost());
        tell("fault(0)", x.fault(0));
        tell("fault(1)", x.fault(1));
    }
}
