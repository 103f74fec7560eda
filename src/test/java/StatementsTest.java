/** Promises 8, 9 and 23 to 25: texts, their faults, and statements. */
public final class StatementsTest {
    private static final int INVALID = PlanShelves.INVALID_ARGUMENT;
    private static final Due due = new Due("StatementsTest");

    public static void main(String[] args) {
        statement();
        statementLimit();
        statementOf();
        statementOfPlansAndRuns();
        type();
        clearText();
        fault();
        due.end();
    }

    private static void statement() {
        due.promise(8, "statement");
        PlanShelves x = new PlanShelves();
        due.is("statement() of the empty text", PlanShelves.NOT_POSSIBLE, x.statement());
        due.is("a=?", 0, Due.statement(x, "a=?"));
        due.is("count(13), the text stays", 3, x.count(13));
        due.is("a=? again", 0, x.statement());
        due.is("count(4)", 1, x.count(4));
        due.is("count(12), it is a change again", 2, x.count(12));
        x.type('&');
        due.is("a=?&", PlanShelves.NOT_POSSIBLE, x.statement());
        x.type('b');
        x.type('<');
        x.type('?');
        due.is("a=?&b<?", 1, x.statement());
        due.is("b<?&a=?, another text", 2, Due.statement(x, "b<?&a=?"));
        due.is("a=?&b>?", 3, Due.statement(x, "a=?&b>?"));
        due.is("a<?", 4, Due.statement(x, "a<?"));
        due.is("a=?&b<?", 1, Due.statement(x, "a=?&b<?"));
        due.is("a=?", 0, Due.statement(x, "a=?"));
        due.is("count(4)", 5, x.count(4));
        due.is("a=?&b", PlanShelves.NOT_POSSIBLE, Due.statement(x, "a=?&b"));
        due.is("five conditions", PlanShelves.NOT_POSSIBLE, Due.statement(x, "a=?&a=?&a=?&a=?&a=?"));
        due.is("count(4)", 5, x.count(4));
    }

    private static void statementLimit() {
        due.promise(8, "statement, its limit");
        PlanShelves x = Due.with("a=?", "b=?", "c=?", "d=?", "a<?", "a=?&a=?&a=?&a=?");
        due.is("count(4)", 6, x.count(4));
        int states = x.count(12);
        due.is("a seventh", PlanShelves.LIMIT_REACHED, Due.statement(x, "a>?"));
        due.is("a longer seventh", PlanShelves.LIMIT_REACHED, Due.statement(x, "a=?&a=?&a=?"));
        due.is("a fault ahead of the limit", PlanShelves.NOT_POSSIBLE, Due.statement(x, "e=?"));
        due.is("count(12)", states, x.count(12));
        due.is("one that is there", 5, Due.statement(x, "a=?&a=?&a=?&a=?"));
        due.is("one that is there", 3, Due.statement(x, "d=?"));
        due.is("count(4)", 6, x.count(4));
    }

    private static void statementOf() {
        due.promise(9, "statementOf");
        PlanShelves x = Due.with("d>?&a<?&b=?&c<?", "c=?");
        int[] columns = {3, 0, 1, 2};
        int[] operators = {2, 1, 0, 1};
        due.is("statementOf(0, 0)", 4, x.statementOf(0, 0));
        for (int k = 0; k < 4; k++) {
            due.is("column " + k, columns[k], x.statementOf(0, 10 + k));
            due.is("operator " + k, operators[k], x.statementOf(0, 20 + k));
        }
        due.is("statementOf(1, 0)", 1, x.statementOf(1, 0));
        due.is("statementOf(1, 10)", 2, x.statementOf(1, 10));
        due.is("statementOf(1, 20)", 0, x.statementOf(1, 20));
        due.is("statementOf(1, 11)", PlanShelves.NOT_FOUND, x.statementOf(1, 11));
        due.is("statementOf(1, 13)", PlanShelves.NOT_FOUND, x.statementOf(1, 13));
        due.is("statementOf(1, 21)", PlanShelves.NOT_FOUND, x.statementOf(1, 21));
        due.is("statementOf(1, 23)", PlanShelves.NOT_FOUND, x.statementOf(1, 23));
        int[] wrong = {-1, 3, 9, 14, 19, 24, 30, Integer.MIN_VALUE, Integer.MAX_VALUE};
        for (int what : wrong) {
            due.is("statementOf(0, " + what + ")", INVALID, x.statementOf(0, what));
        }
        due.is("statementOf(2, 0)", INVALID, x.statementOf(2, 0));
        due.is("statementOf(2, 13)", INVALID, x.statementOf(2, 13));
        due.is("statementOf(-1, 0)", INVALID, x.statementOf(-1, 0));
        due.is("statementOf(MAX, 10)", INVALID, x.statementOf(Integer.MAX_VALUE, 10));
    }

    private static void statementOfPlansAndRuns() {
        due.promise(9, "statementOf, plans and runs");
        PlanShelves x = Due.with("a=?", "b=?");
        x.row(1, 1, 1, 1, 1);
        x.row(2, 2, 2, 2, 99);
        x.analyse();
        x.run(0, 1, 0, 0, 0);
        x.run(0, 2, 0, 0, 0);
        x.run(0, 2, 0, 0, 0);
        x.run(1, 2, 0, 0, 0);
        due.is("statementOf(0, 1)", 2, x.statementOf(0, 1));
        due.is("statementOf(0, 2)", 3, x.statementOf(0, 2));
        due.is("statementOf(1, 1)", 1, x.statementOf(1, 1));
        due.is("statementOf(1, 2)", 1, x.statementOf(1, 2));
        x.drop(0);
        due.is("statementOf(0, 1)", 1, x.statementOf(0, 1));
        due.is("statementOf(0, 2)", 3, x.statementOf(0, 2));
        x.undo();
        x.undo();
        due.is("statementOf(1, 2), the run is undone", 0, x.statementOf(1, 2));
    }

    private static void type() {
        due.promise(23, "type");
        PlanShelves x = new PlanShelves();
        due.is("type(32)", 1, x.type(32));
        due.is("type(126)", 2, x.type(126));
        int[] wrong = {31, 127, 0, -1, 32 + 65536, 97 - 65536, Integer.MIN_VALUE, Integer.MAX_VALUE};
        for (int character : wrong) {
            due.is("type(" + character + ")", INVALID, x.type(character));
        }
        for (int length = 3; length <= 30; length++) {
            due.is("type to " + length, length, x.type('x'));
        }
        due.is("type, full", PlanShelves.LIMIT_REACHED, x.type('x'));
        due.is("type(127), full", INVALID, x.type(127));
        due.is("count(13)", 30, x.count(13));
        due.is("count(12), it is no change", 0, x.count(12));
    }

    private static void clearText() {
        due.promise(24, "clearText");
        PlanShelves x = new PlanShelves();
        due.is("clearText(), empty", 0, x.clearText());
        Due.type(x, "b=?");
        due.is("clearText()", 3, x.clearText());
        due.is("count(13)", 0, x.count(13));
        due.is("fault(0)", 0, x.fault(0));
        due.is("count(12), it is no change", 0, x.count(12));
        due.is("type('a')", 1, x.type('a'));
        due.is("a=?", 0, Due.statement(x, "a=?"));
        x.clearText();
        due.is("statementOf(0, 0), the statement stays", 1, x.statementOf(0, 0));
    }

    private static void fault() {
        due.promise(25, "fault");
        faultIs("", 0, 1);
        faultIs("a", 1, 1);
        faultIs("a=", 2, 1);
        faultIs("a=?&", 4, 1);
        faultIs("a=?&b", 5, 1);
        faultIs("a=?&b>", 6, 1);
        faultIs("e=?", 0, 1);
        faultIs("`=?", 0, 1);
        faultIs("A=?", 0, 1);
        faultIs("=a?", 0, 1);
        faultIs("a?", 1, 1);
        faultIs("a==", 2, 1);
        faultIs("a=1", 2, 1);
        faultIs("a=?b", 3, 1);
        faultIs("a=? ", 3, 1);
        faultIs(" a=?", 0, 1);
        faultIs("a=?&&", 4, 1);
        faultIs("a=?&b=?&c=?&d=?&", 15, 2);
        faultIs("a=?&b=?&c=?&d=?&a", 15, 2);
        faultIs("a=?&b=?&c=?&d=?&a=?", 15, 2);
        faultIs("a=?&b=?&c=?&d=?&&", 15, 2);
        faultIs("a=?&b=?&c=?&d=?x", 15, 1);
        faultIs("a=?&b=?&c=?&d=?x&", 15, 1);
        faultIs("a=?&b=?&c=?&e=?&", 12, 1);
        faultIs("a=?&b=?&c=?xd=?&a=?", 11, 1);
        faultIs("a=?&b=?&c=?&d=?&a=?&b=?&c=?&d=", 15, 2);
        faultIs("zzzzzzzzzzzzzzzzzzzzzzzzzzzzzz", 0, 1);
        noFault("a=?");
        noFault("d<?");
        noFault("b>?&c=?");
        noFault("c<?&c>?&c=?");
        noFault("a=?&b=?&c=?&d=?");
    }

    private static void faultIs(String text, int place, int reason) {
        PlanShelves x = new PlanShelves();
        Due.type(x, text);
        due.is("fault(0) of " + text, place, x.fault(0));
        due.is("fault(1) of " + text, reason, x.fault(1));
        due.is("fault(2) of " + text, INVALID, x.fault(2));
        due.is("statement() of " + text, PlanShelves.NOT_POSSIBLE, x.statement());
        due.is("count(4) with " + text, 0, x.count(4));
        due.is("count(12) with " + text, 0, x.count(12));
    }

    private static void noFault(String text) {
        PlanShelves x = new PlanShelves();
        Due.type(x, text);
        due.is("fault(0) of " + text, PlanShelves.NOT_FOUND, x.fault(0));
        due.is("fault(1) of " + text, PlanShelves.NOT_FOUND, x.fault(1));
        due.is("fault(-1) of " + text, INVALID, x.fault(-1));
        due.is("fault(2) of " + text, INVALID, x.fault(2));
        due.is("statement() of " + text, 0, x.statement());
        due.is("statementOf(0, 0) of " + text, (text.length() + 1) / 4, x.statementOf(0, 0));
    }
}
