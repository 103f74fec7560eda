/** The sentences of 'Statements' and 'Classes' that name a boundary case, each with a test of its own. */
public final class EdgesOfStatementsTest {
    private static final int NOT_POSSIBLE = PlanShelves.NOT_POSSIBLE;
    private static final int LIMIT = PlanShelves.LIMIT_REACHED;
    private static final int NOT_FOUND = PlanShelves.NOT_FOUND;
    private static final String FOUR = "a=?&b<?&c>?&d=?";
    private static final Due due = new Due("EdgesOfStatementsTest");

    public static void main(String[] args) {
        textOfThirtyCharacters();
        oneToFourConditions();
        signsOfACondition();
        firstFaultFromTheLeft();
        characterThatCannotStand();
        textThatEndsTooEarly();
        fifthCondition();
        sixStatements();
        eachWithAnotherText();
        conditionHolds();
        share();
        shareOfNothing();
        classByBounds();
        noClassOne();
        digits();
        due.end();
    }

    private static void textOfThirtyCharacters() {
        due.sentence("Statements", "There is a text of at most 30 characters, initially empty.");
        PlanShelves x = new PlanShelves();
        due.is("count(13), a new object", 0, x.count(13));
        for (int length = 1; length <= 30; length++) {
            due.is("type", length, x.type('a'));
        }
        due.is("a character too many", LIMIT, x.type('a'));
        due.is("count(13)", 30, x.count(13));
    }

    private static void oneToFourConditions() {
        due.sentence("Statements", "As a statement it is one to four conditions with \"&\" between two");
        PlanShelves x = new PlanShelves();
        due.is("no condition", NOT_POSSIBLE, Due.statement(x, ""));
        due.is("one", 0, Due.statement(x, "d=?"));
        due.is("two", 1, Due.statement(x, "d=?&c=?"));
        due.is("three", 2, Due.statement(x, "d=?&c=?&b=?"));
        due.is("four", 3, Due.statement(x, "d=?&c=?&b=?&a=?"));
        due.is("five", NOT_POSSIBLE, Due.statement(x, "d=?&c=?&b=?&a=?&d=?"));
        due.is("seven", NOT_POSSIBLE, Due.statement(x, "d=?&c=?&b=?&a=?&d=?&c=?&b=?"));
        due.is("& ahead of all", NOT_POSSIBLE, Due.statement(x, "&d=?"));
        due.is("& behind all", NOT_POSSIBLE, Due.statement(x, "d=?&"));
        due.is("& behind four", NOT_POSSIBLE, Due.statement(x, "d=?&c=?&b=?&a=?&"));
        due.is("no & between two", NOT_POSSIBLE, Due.statement(x, "d=?c=?"));
        due.is("two & between two", NOT_POSSIBLE, Due.statement(x, "d=?&&c=?"));
        due.list("how many conditions statement % has", statement -> x.statementOf(statement, 0), 1, 2, 3, 4);
    }

    private static void signsOfACondition() {
        due.sentence("Statements", "a condition is a letter a to d (a column), \"=\", \"<\" or \">\", and \"?\"");
        for (int character = 32; character <= 126; character++) {
            char sign = (char) character;
            signIs(sign + "=?", "abcd".indexOf(sign), 0);
            signIs("a" + sign + "?", 0, "=<>".indexOf(sign));
            signIs("a=" + sign, sign == '?' ? 0 : -1, 0);
        }
    }

    private static void signIs(String text, int column, int operator) {
        PlanShelves x = new PlanShelves();
        boolean right = column >= 0 && operator >= 0;
        due.is(text, right ? 0 : NOT_POSSIBLE, Due.statement(x, text));
        if (right) {
            due.is("the column of " + text, column, x.statementOf(0, 10));
            due.is("the operator of " + text, operator, x.statementOf(0, 20));
        }
    }

    private static void firstFaultFromTheLeft() {
        due.sentence("Statements", "The fault of the text is told by a place and a reason, the first one from the left");
        faultIs("a=xx", 2, 1);
        faultIs("zzzz", 0, 1);
        faultIs("a=?&b<?xc", 7, 1);
        faultIs("a=?&b<?&c>?&d=x&a=?", 14, 1);
        faultIs("a=?&b<?&c>?xd=?&a=?", 11, 1);
        faultIs(FOUR + "&x", 15, 2);
        faultIs(FOUR + "x&", 15, 1);
        faultIs("x=?&", 0, 1);
    }

    private static void characterThatCannotStand() {
        due.sentence("Statements", "1: a character that cannot stand at its place (its index;");
        for (int place = 0; place < FOUR.length(); place++) {
            for (char wrong : new char[] {'x', ' ', '~', place % 4 == 0 ? '=' : 'a'}) {
                String text = FOUR.substring(0, place) + wrong;
                faultIs(text, place, 1);
                faultIs(text + FOUR.substring(place + 1), place, 1);
            }
        }
        faultIs(FOUR + "a", 15, 1);
        faultIs(FOUR + "?=?&a=?&b=?&c=?", 15, 1);
    }

    private static void textThatEndsTooEarly() {
        due.sentence("Statements", "the length of the text if it ends too early, as the empty text does)");
        faultIs("", 0, 1);
        for (int length = 1; length <= FOUR.length(); length++) {
            String text = FOUR.substring(0, length);
            if (length % 4 != 3) {
                faultIs(text, length, 1);
            } else {
                faultIs(text, NOT_FOUND, NOT_FOUND);
            }
        }
    }

    private static void fifthCondition() {
        due.sentence("Statements", "2: the \"&\" ahead of a fifth condition (its index)");
        faultIs(FOUR + "&a=?", 15, 2);
        faultIs(FOUR + "&a=?&b=?&c=?&d", 15, 2);
        faultIs(FOUR + "&", 15, 2);
        faultIs("a=?&b=?&c=?&d=?&&", 15, 2);
        faultIs(FOUR, NOT_FOUND, NOT_FOUND);
        faultIs("a=?&b=?&c=?&", 12, 1);
    }

    private static void faultIs(String text, int place, int reason) {
        PlanShelves x = new PlanShelves();
        Due.type(x, text);
        due.is("fault(0) of '" + text + "'", place, x.fault(0));
        due.is("fault(1) of '" + text + "'", reason, x.fault(1));
    }

    private static void sixStatements() {
        due.sentence("Statements", "There are at most 6 statements, numbered from 0");
        PlanShelves x = new PlanShelves();
        String[] texts = {"a=?", "b=?", "c=?", "d=?", "a<?", "b<?"};
        for (int number = 0; number < texts.length; number++) {
            due.is(texts[number], number, Due.statement(x, texts[number]));
        }
        due.is("a seventh", LIMIT, Due.statement(x, "c<?"));
        due.is("count(4)", 6, x.count(4));
        due.is("the sixth is what it was", 1, x.statementOf(5, 10));
        due.is("run(5, ..)", 0, x.run(5, 0, 0, 0, 0));
        due.is("run(6, ..)", PlanShelves.INVALID_ARGUMENT, x.run(6, 0, 0, 0, 0));
    }

    private static void eachWithAnotherText() {
        due.sentence("Statements", "numbered from 0, each with another text");
        PlanShelves x = Due.with("a=?", "a<?", "b=?", "a=?&b=?", "b=?&a=?", "a=?&a=?");
        due.is("count(4), texts that differ a little", 6, x.count(4));
        due.is("a=?", 0, Due.statement(x, "a=?"));
        due.is("b=?", 2, Due.statement(x, "b=?"));
        due.is("b=?&a=?", 4, Due.statement(x, "b=?&a=?"));
        due.is("a=?&a=?, with six there", 5, Due.statement(x, "a=?&a=?"));
        due.is("a=?&b<?, where only the last operator is another", LIMIT, Due.statement(x, "a=?&b<?"));
        due.is("a=?&b=?&c=?, which begins as another", LIMIT, Due.statement(x, "a=?&b=?&c=?"));
        due.is("count(4)", 6, x.count(4));
    }

    private static void conditionHolds() {
        due.sentence("Statements",
                "if its value in the column is equal to, less than, or greater than the value that is given for the condition");
        PlanShelves x = Due.with("d=?", "d<?", "d>?");
        x.row(9, 9, 9, 0, 1);
        x.row(9, 9, 9, 15, 20);
        x.row(9, 9, 9, 31, 300);
        due.each("d=%", 0, value -> x.run(0, value, 0, 0, 0), 1, 9, 14, 16, 30);
        due.is("d=0", 1, x.run(0, 0, 0, 0, 0));
        due.is("d=31", 300, x.run(0, 31, 0, 0, 0));
        due.each("d<%", 0, value -> x.run(1, value, 0, 0, 0), 0);
        due.each("d<%", 1, value -> x.run(1, value, 0, 0, 0), 1, 14, 15);
        due.each("d<%", 21, value -> x.run(1, value, 0, 0, 0), 16, 30, 31);
        due.each("d>%", 320, value -> x.run(2, value, 0, 0, 0), 0, 14);
        due.each("d>%", 300, value -> x.run(2, value, 0, 0, 0), 15, 30);
        due.each("d>%", 0, value -> x.run(2, value, 0, 0, 0), 31);
        x.analyse();
        x.index(3, 1);
        x.set(0, 0);
        x.set(1, 0);
        costsAre(x, 1, 0, 10);
        costsAre(x, 1, 1, 11);
        costsAre(x, 1, 15, 11);
        costsAre(x, 1, 31, 31);
        costsAre(x, 2, 31, 10);
        costsAre(x, 2, 15, 310);
        costsAre(x, 0, 31, 310);
        costsAre(x, 0, 16, 10);
    }

    private static void costsAre(PlanShelves x, int statement, int value, int cost) {
        x.run(statement, value, 0, 0, 0);
        due.is("latest(5) of statement " + statement, 1, x.latest(5));
        due.is("the estimate of statement " + statement + " with " + value, cost, x.latest(3));
        x.drop(x.latest(1));
    }

    private static void share() {
        due.sentence("Classes", "The share of a condition with a value is 1000 times what the statistics know of rows");
        PlanShelves x = Due.with("a<?");
        x.set(0, 1000);
        x.set(1, 1000);
        Due.rows(x, 30, 30, 999);
        x.dropRow(0);
        x.row(31, 0, 0, 0, 29);
        x.analyse();
        due.is("29000 - 29 of 29000 is 999", 0, x.classOf(0, 31, 0, 0, 0));
        x.dropRow(29);
        due.is("999, as the row that is gone is known", 0, x.classOf(0, 31, 0, 0, 0));
        x.analyse();
        due.is("all of them: 1000, not below 1000", 2, x.classOf(0, 31, 0, 0, 0));
        x.set(0, 1);
        due.is("none of them: 0, below 1", 0, x.classOf(0, 30, 0, 0, 0));
        for (int row = 0; row < 29; row++) {
            x.dropRow(0);
        }
        due.is("1000, as the rows that are gone are known", 2, x.classOf(0, 31, 0, 0, 0));
    }

    private static void shareOfNothing() {
        due.sentence("Classes", "divided by the size that they know (0 if that is 0)");
        PlanShelves x = Due.with("a<?");
        due.is("nothing known: below 50", 0, x.classOf(0, 31, 0, 0, 0));
        x.row(0, 0, 0, 0, 5);
        due.is("rows that are not known", 0, x.classOf(0, 31, 0, 0, 0));
        x.set(0, 0);
        due.is("0 is not below 0, but below 300", 1, x.classOf(0, 31, 0, 0, 0));
        x.set(1, 1);
        due.is("0 is below 1 as the bound of class 1", 1, x.classOf(0, 31, 0, 0, 0));
        x.set(0, 1);
        due.is("0 is below 1", 0, x.classOf(0, 31, 0, 0, 0));
        x.set(0, 0);
        x.analyse();
        due.is("known", 2, x.classOf(0, 31, 0, 0, 0));
        x.dropRow(0);
        x.analyse();
        due.is("nothing known again", 1, x.classOf(0, 31, 0, 0, 0));
        due.is("run", 0, x.run(0, 31, 0, 0, 0));
        due.is("latest(0)", 1, x.latest(0));
    }

    private static void classByBounds() {
        due.sentence("Classes", "Its class is 0 if the share is below setting 0, 1 if it is below setting 1, and otherwise 2.");
        PlanShelves x = Due.with("a=?");
        int[] weights = {49, 50, 299, 300, 302};
        for (int value = 0; value < weights.length; value++) {
            x.row(value, 0, 0, 0, weights[value]);
        }
        x.analyse();
        due.list("the share of %: 49, 50, 299, 300, 302, 0", value -> x.classOf(0, value, 0, 0, 0), 0, 1, 1, 2, 2, 0);
        x.set(0, 51);
        x.set(1, 301);
        due.list("51 and 301: the class of %", value -> x.classOf(0, value, 0, 0, 0), 0, 0, 1, 1, 2, 0);
        x.set(0, 0);
        due.is("a share of 0 is not below 0", 1, x.classOf(0, 9, 0, 0, 0));
        x.set(0, 1000);
        due.list("1000: the class of %", value -> x.classOf(0, value, 0, 0, 0), 0, 0, 0, 0, 0, 0);
    }

    private static void noClassOne() {
        due.sentence("Classes", "(If setting 1 is not above setting 0, no class is 1.)");
        PlanShelves x = Due.with("a=?");
        int[] weights = {49, 50, 299, 300, 302};
        for (int value = 0; value < weights.length; value++) {
            x.row(value, 0, 0, 0, weights[value]);
        }
        x.analyse();
        x.set(0, 300);
        due.list("300 and 300: the class of %", value -> x.classOf(0, value, 0, 0, 0), 0, 0, 0, 2, 2, 0);
        x.set(1, 50);
        due.list("300 and 50: the class of %", value -> x.classOf(0, value, 0, 0, 0), 0, 0, 0, 2, 2, 0);
        x.set(0, 0);
        x.set(1, 0);
        due.list("0 and 0: the class of %", value -> x.classOf(0, value, 0, 0, 0), 2, 2, 2, 2, 2, 2);
        x.set(1, 1);
        due.list("0 and 1: the class of %", value -> x.classOf(0, value, 0, 0, 0), 2, 2, 2, 2, 2, 1);
    }

    private static void digits() {
        due.sentence("Classes", "that of the condition 0 counting 1, that of the condition 1 counting 3, and so on");
        PlanShelves x = Due.with("a=?&b=?&c=?&d=?", "a=?");
        due.is("the least class", 0, x.classOf(0, 0, 0, 0, 0));
        x.row(0, 0, 0, 0, 800);
        x.row(1, 1, 1, 1, 200);
        x.analyse();
        due.is("the highest class", 80, x.classOf(0, 0, 0, 0, 0));
        due.is("the highest class of one condition", 2, x.classOf(1, 0, 0, 0, 0));
        due.is("the condition 0 alone", 1, x.classOf(0, 1, 5, 5, 5));
        due.is("the condition 1 alone", 3, x.classOf(0, 5, 1, 5, 5));
        due.is("the condition 2 alone", 9, x.classOf(0, 5, 5, 1, 5));
        due.is("the condition 3 alone", 27, x.classOf(0, 5, 5, 5, 1));
    }
}
