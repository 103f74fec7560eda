/** The sentences of the promises 8, 9 and 23 to 25 that name a boundary case, each with a test of its own. */
public final class EdgesOfTextPromisesTest {
    private static final int INVALID = PlanShelves.INVALID_ARGUMENT;
    private static final int NOT_POSSIBLE = PlanShelves.NOT_POSSIBLE;
    private static final int LIMIT = PlanShelves.LIMIT_REACHED;
    private static final int NOT_FOUND = PlanShelves.NOT_FOUND;
    private static final int MIN = Integer.MIN_VALUE;
    private static final int MAX = Integer.MAX_VALUE;
    private static final String FOUR = "a=?&b<?&c>?&d=?";
    private static final Due due = new Due("EdgesOfTextPromisesTest");

    public static void main(String[] args) {
        textStays();
        statementThatIsThere();
        textWithAFault();
        sixOthers();
        statementNumber();
        howManyConditions();
        howManyPlans();
        howOftenRun();
        columnOfACondition();
        operatorOfACondition();
        statementOfInvalid();
        noSuchCondition();
        typeAppends();
        typeCharacter();
        typeLength();
        typeInvalid();
        typeLimit();
        clearTextEmpties();
        clearTextLength();
        faultWhat();
        faultInvalid();
        noFault();
        due.end();
    }

    private static void textStays() {
        due.sentence("Promise 8", "Makes the text, which stays, a statement.");
        PlanShelves x = new PlanShelves();
        Due.type(x, FOUR);
        due.is("statement()", 0, x.statement());
        due.is("count(13)", 15, x.count(13));
        due.is("statement(), of the text that stayed", 0, x.statement());
        due.is("type('&')", 16, x.type('&'));
        due.is("statement(), refused", NOT_POSSIBLE, x.statement());
        due.is("count(13)", 16, x.count(13));
        due.is("statementOf(0, 0), the statement is as it was", 4, x.statementOf(0, 0));
    }

    private static void statementThatIsThere() {
        due.sentence("Promise 8", "Returns its number (that of the statement with this text, if there is one);");
        PlanShelves x = new PlanShelves();
        due.is("a=?", 0, Due.statement(x, "a=?"));
        due.is(FOUR, 1, Due.statement(x, FOUR));
        due.is("a=? again", 0, Due.statement(x, "a=?"));
        due.is(FOUR + " again", 1, Due.statement(x, FOUR));
        due.is("a=?&b<?&c>?&d<?, another", 2, Due.statement(x, "a=?&b<?&c>?&d<?"));
        due.is("count(4)", 3, x.count(4));
        x.undo();
        due.is("count(4)", 2, x.count(4));
        due.is("a>?, the one before is undone", 2, Due.statement(x, "a>?"));
        due.is("statementOf(2, 0)", 1, x.statementOf(2, 0));
        due.is("a=?&b<?&c>?&d<?", 3, Due.statement(x, "a=?&b<?&c>?&d<?"));
    }

    private static void textWithAFault() {
        due.sentence("Promise 8", "NOT_POSSIBLE if the text has a fault");
        String[] faults = {"", "a", "a=", "a=?&", "a=?&b", "a=?&b<", "e=?", "a?", "a=?b", FOUR + "&", FOUR + "&a=?", FOUR + "a",
            FOUR + "&a=?&b=?&c=?&d"};
        for (String text : faults) {
            PlanShelves x = new PlanShelves();
            due.is("'" + text + "'", NOT_POSSIBLE, Due.statement(x, text));
            due.is("count(4)", 0, x.count(4));
            due.is("count(12)", 0, x.count(12));
        }
    }

    private static void sixOthers() {
        due.sentence("Promise 8", "LIMIT_REACHED if there are 6 others.");
        PlanShelves x = Due.with("a=?", "b=?", "c=?", "d=?", FOUR);
        due.is("the sixth, 5 others", 5, Due.statement(x, "a=?&a=?"));
        due.is("a seventh", LIMIT, Due.statement(x, "a=?&a=?&a=?"));
        due.is("the first one, 5 others", 0, Due.statement(x, "a=?"));
        due.is("the sixth, 5 others", 5, Due.statement(x, "a=?&a=?"));
        due.is("a seventh again", LIMIT, Due.statement(x, "d>?"));
        due.is("count(4)", 6, x.count(4));
        x.undo();
        x.undo();
        x.undo();
        due.is("count(4), the sixth is undone", 5, x.count(4));
        due.is("d>?, 5 others", 5, Due.statement(x, "d>?"));
    }

    private static void statementNumber() {
        due.sentence("Promise 9", "`statement`: number of the statement");
        PlanShelves x = new PlanShelves();
        due.each("statementOf(%, 0), none", INVALID, statement -> x.statementOf(statement, 0), 0, -1, 5, 6, MIN, MAX);
        PlanShelves six = Due.six();
        due.list("statementOf(%, 20)", statement -> six.statementOf(statement, 20), 0, 0, 0, 0, 1, 1, INVALID, INVALID);
        due.each("statementOf(%, 0)", INVALID, statement -> six.statementOf(statement, 0), -1, 6, 7, MIN, MAX);
    }

    private static PlanShelves oneToFour() {
        return Due.with("d>?", "c<?&d=?", "b=?&c>?&a<?", "a>?&d<?&b=?&c>?");
    }

    private static void howManyConditions() {
        due.sentence("Promise 9", "0: how many conditions;");
        PlanShelves x = oneToFour();
        due.list("statementOf(%, 0)", statement -> x.statementOf(statement, 0), 1, 2, 3, 4, INVALID);
    }

    private static void howManyPlans() {
        due.sentence("Promise 9", "1: how many plans are kept for it;");
        PlanShelves x = Due.with("a=?", "a=?&b=?");
        Due.rows(x, 1, 1, 20);
        x.analyse();
        x.set(4, 8);
        due.is("statementOf(0, 1), never run", 0, x.statementOf(0, 1));
        for (int number = 0; number < 4; number++) {
            x.run(1, 1 + number / 2, 1 + number % 2, 0, 0);
            due.is("statementOf(1, 1)", number + 1, x.statementOf(1, 1));
        }
        x.run(1, 1, 1, 0, 0);
        due.is("statementOf(1, 1), the plan was there", 4, x.statementOf(1, 1));
        due.is("statementOf(0, 1), those of another", 0, x.statementOf(0, 1));
        x.set(4, 1);
        x.run(0, 1, 0, 0, 0);
        due.is("statementOf(1, 1), all dropped", 0, x.statementOf(1, 1));
        due.is("statementOf(0, 1)", 1, x.statementOf(0, 1));
        x.pin(4, 1);
        x.run(1, 1, 1, 0, 0);
        due.is("statementOf(1, 1), not kept", 0, x.statementOf(1, 1));
        x.pin(4, 0);
        x.drop(4);
        due.is("statementOf(0, 1), thrown away", 0, x.statementOf(0, 1));
    }

    private static void howOftenRun() {
        due.sentence("Promise 9", "2: how often it was run;");
        PlanShelves x = Due.six();
        x.set(4, 1);
        due.is("statementOf(5, 2)", 0, x.statementOf(5, 2));
        for (int time = 1; time <= 9; time++) {
            x.run(5, time, 0, 0, 0);
            due.is("statementOf(5, 2)", time, x.statementOf(5, 2));
        }
        x.run(5, 32, 0, 0, 0);
        due.is("statementOf(5, 2), a run that is refused", 9, x.statementOf(5, 2));
        x.pin(0, 1);
        x.run(0, 0, 0, 0, 0);
        due.is("statementOf(0, 2), its plan is not kept", 1, x.statementOf(0, 2));
        due.is("statementOf(5, 2), another was run", 9, x.statementOf(5, 2));
        x.undo();
        due.is("statementOf(0, 2), undone", 0, x.statementOf(0, 2));
        PlanShelves again = Due.with("a=?");
        again.run(0, 0, 0, 0, 0);
        again.undo();
        again.undo();
        due.is("b=?", 0, Due.statement(again, "b=?"));
        due.is("statementOf(0, 2), a statement that is new", 0, again.statementOf(0, 2));
    }

    private static void columnOfACondition() {
        due.sentence("Promise 9", "10 plus k: the column of the condition k;");
        PlanShelves x = oneToFour();
        due.list("statementOf(0, 10 + %)", k -> x.statementOf(0, 10 + k), 3, NOT_FOUND, NOT_FOUND, NOT_FOUND, INVALID);
        due.list("statementOf(1, 10 + %)", k -> x.statementOf(1, 10 + k), 2, 3, NOT_FOUND, NOT_FOUND, INVALID);
        due.list("statementOf(2, 10 + %)", k -> x.statementOf(2, 10 + k), 1, 2, 0, NOT_FOUND, INVALID);
        due.list("statementOf(3, 10 + %)", k -> x.statementOf(3, 10 + k), 0, 3, 1, 2, INVALID);
    }

    private static void operatorOfACondition() {
        due.sentence("Promise 9", "20 plus k: its operator, 0 equal to, 1 less than, 2 greater than");
        PlanShelves x = oneToFour();
        due.list("statementOf(0, 20 + %)", k -> x.statementOf(0, 20 + k), 2, NOT_FOUND, NOT_FOUND, NOT_FOUND, INVALID);
        due.list("statementOf(1, 20 + %)", k -> x.statementOf(1, 20 + k), 1, 0, NOT_FOUND, NOT_FOUND, INVALID);
        due.list("statementOf(2, 20 + %)", k -> x.statementOf(2, 20 + k), 0, 2, 1, NOT_FOUND, INVALID);
        due.list("statementOf(3, 20 + %)", k -> x.statementOf(3, 20 + k), 2, 1, 0, 2, INVALID);
    }

    private static void statementOfInvalid() {
        due.sentence("Promise 9", "INVALID_ARGUMENT if an argument is out of range, or what is none of these (k is 0 to 3);");
        PlanShelves x = Due.with(FOUR);
        due.each("statementOf(0, %)", INVALID, what -> x.statementOf(0, what), -1, 3, 4, 9, 14, 15, 19, 24, 30, MIN, MIN + 10, MAX);
        due.is("statementOf(1, 3)", INVALID, x.statementOf(1, 3));
        due.is("statementOf(1, 0)", INVALID, x.statementOf(1, 0));
        due.is("statementOf(-1, -1)", INVALID, x.statementOf(-1, -1));
        due.is("statementOf(1, 10)", INVALID, x.statementOf(1, 10));
    }

    private static void noSuchCondition() {
        due.sentence("Promise 9", "NOT_FOUND if there is no such condition.");
        PlanShelves x = oneToFour();
        for (int statement = 0; statement < 4; statement++) {
            for (int k = 0; k < 4; k++) {
                boolean there = k <= statement;
                due.is("statementOf(" + statement + ", 10 + " + k + ")", there ? 1 : 0, x.statementOf(statement, 10 + k) == NOT_FOUND ? 0 : 1);
                due.is("statementOf(" + statement + ", 20 + " + k + ")", there ? 1 : 0, x.statementOf(statement, 20 + k) == NOT_FOUND ? 0 : 1);
            }
        }
        x.undo();
        due.is("a=?, where one with four was undone", 3, Due.statement(x, "a=?"));
        due.is("statementOf(3, 11)", NOT_FOUND, x.statementOf(3, 11));
    }

    private static void typeAppends() {
        due.sentence("Promise 23", "Appends a character to the text.");
        PlanShelves x = new PlanShelves();
        x.type('b');
        due.is("fault(0), b", 1, x.fault(0));
        x.type('<');
        due.is("fault(0), b<", 2, x.fault(0));
        x.type('?');
        due.is("fault(0), b<?", NOT_FOUND, x.fault(0));
        due.is("statement()", 0, x.statement());
        due.is("statementOf(0, 10)", 1, x.statementOf(0, 10));
        x.type('?');
        due.is("fault(0), b<??", 3, x.fault(0));
        x.undo();
        due.is("fault(0), undo() leaves the text", 3, x.fault(0));
    }

    private static void typeCharacter() {
        due.sentence("Promise 23", "`character`: 32 to 126");
        for (int character = -3; character <= 260; character++) {
            PlanShelves x = new PlanShelves();
            due.is("type(" + character + ")", character >= 32 && character <= 126 ? 1 : INVALID, x.type(character));
        }
    }

    private static void typeLength() {
        due.sentence("Promise 23", "Returns the length of the text;");
        PlanShelves x = new PlanShelves();
        for (int length = 1; length <= 30; length++) {
            due.is("type", length, x.type(32 + length));
            due.is("count(13)", length, x.count(13));
        }
        x.clearText();
        due.is("type, the first one again", 1, x.type(126));
    }

    private static void typeInvalid() {
        due.sentence("Promise 23", "INVALID_ARGUMENT if character is out of range");
        PlanShelves x = new PlanShelves();
        int[] wrong = {31, 127, 0, -1, 128, 256 + 97, 65536 + 97, 97 - 65536, MIN, MIN + 97, MAX};
        due.each("type(%)", INVALID, x::type, wrong);
        due.is("count(13)", 0, x.count(13));
        Due.type(x, "aaaaaaaaaaaaaaaaaaaaaaaaaaaaaa");
        due.each("type(%), full", INVALID, x::type, wrong);
        due.is("count(13)", 30, x.count(13));
    }

    private static void typeLimit() {
        due.sentence("Promise 23", "LIMIT_REACHED if it has 30 characters.");
        PlanShelves x = new PlanShelves();
        Due.type(x, "aaaaaaaaaaaaaaaaaaaaaaaaaaaaa");
        due.is("type, it has 29", 30, x.type(32));
        due.each("type(%), it has 30", LIMIT, x::type, 32, 97, 126);
        due.is("count(13)", 30, x.count(13));
        due.is("clearText()", 30, x.clearText());
        due.is("type, it has none", 1, x.type(32));
    }

    private static void clearTextEmpties() {
        due.sentence("Promise 24", "Empties the text.");
        PlanShelves x = new PlanShelves();
        Due.type(x, FOUR);
        x.clearText();
        due.is("count(13)", 0, x.count(13));
        due.is("fault(0)", 0, x.fault(0));
        due.is("statement()", NOT_POSSIBLE, x.statement());
        x.type('a');
        due.is("fault(0), nothing of what was there comes back", 1, x.fault(0));
        due.is("statement()", NOT_POSSIBLE, x.statement());
    }

    private static void clearTextLength() {
        due.sentence("Promise 24", "Returns the length it had.");
        PlanShelves x = new PlanShelves();
        due.is("clearText(), empty", 0, x.clearText());
        x.type(32);
        due.is("clearText(), one character", 1, x.clearText());
        due.is("clearText() again", 0, x.clearText());
        for (int length = 1; length <= 31; length++) {
            x.type(32);
        }
        due.is("clearText(), full", 30, x.clearText());
        due.is("clearText() again", 0, x.clearText());
    }

    private static void faultWhat() {
        due.sentence("Promise 25", "`what`: 0: its place; 1: its reason");
        PlanShelves x = new PlanShelves();
        due.list("fault(%), empty", x::fault, 0, 1, INVALID);
        Due.type(x, FOUR + "&");
        due.list("fault(%), a fifth condition", x::fault, 15, 2, INVALID);
        Due.type(x, FOUR + "&aaaaaaaaaaaaaa");
        due.list("fault(%), full", x::fault, 15, 2, INVALID);
        Due.type(x, "a=?&b<?&c>?&d=");
        due.list("fault(%), the last character is not there", x::fault, 14, 1, INVALID);
    }

    private static void faultInvalid() {
        due.sentence("Promise 25", "INVALID_ARGUMENT if what is out of range");
        PlanShelves x = new PlanShelves();
        due.each("fault(%), a fault", INVALID, x::fault, -1, 2, 3, MIN, MAX);
        Due.type(x, "a=?");
        due.each("fault(%), no fault", INVALID, x::fault, -1, 2, 3, MIN, MAX);
    }

    private static void noFault() {
        due.sentence("Promise 25", "NOT_FOUND if the text has no fault.");
        for (String text : new String[] {"a=?", "a=?&b<?", "a=?&b<?&c>?", FOUR, "d>?&d>?&d>?&d>?"}) {
            PlanShelves x = new PlanShelves();
            Due.type(x, text);
            due.list("fault(%) of " + text, x::fault, NOT_FOUND, NOT_FOUND, INVALID);
            due.is(text, 0, x.statement());
            x.type('&');
            due.is("fault(0) of " + text + "&", text.length() == 15 ? 15 : text.length() + 1, x.fault(0));
        }
    }
}
