import java.util.List;
import java.util.function.IntUnaryOperator;

/** Compares answers with those that are due, prints every other one, counts tests, and ends the program by them. */
final class Due {
    private final String program;
    private int asked = 0;
    private int wrong = 0;
    private int passed = 0;
    private int failed = 0;
    private String test = "";
    private int wrongAhead = 0;

    Due(String program) {
        this.program = program;
    }

    /** Begins a test and names the promise that the next answers belong to. */
    void promise(int number, String about) {
        begin("promise " + number + " (" + about + ")");
    }

    /** Begins the test of a sentence, or of a part of one, that stands under a heading of the document. */
    void sentence(String heading, String words) {
        begin(heading + ", \"" + words + "\"");
        is("the document, asked for these words,", 1, Document.says(heading, words) ? 1 : 0);
    }

    /** Ends the test ahead of it. */
    void begin(String name) {
        close();
        test = name;
        wrongAhead = wrong;
    }

    void is(String call, long want, long got) {
        asked++;
        if (got != want) {
            wrong++;
            System.out.println(program + ", " + test + ": " + call + " answered " + got + ", due is " + want);
        }
    }

    /** The same answer for each of several arguments, which stand for the % of the call. */
    void each(String call, long want, IntUnaryOperator answer, int... arguments) {
        for (int argument : arguments) {
            is(call.replace("%", String.valueOf(argument)), want, answer.applyAsInt(argument));
        }
    }

    /** The answers for the arguments 0, 1, 2 and so on, which stand for the % of the call. */
    void list(String call, IntUnaryOperator answer, int... wants) {
        for (int argument = 0; argument < wants.length; argument++) {
            is(call.replace("%", String.valueOf(argument)), wants[argument], answer.applyAsInt(argument));
        }
    }

    /** The numbers that dropsNext tells, place by place, up to its NOT_FOUND. */
    void order(PlanShelves x, int... plans) {
        list("dropsNext(%)", x::dropsNext, plans);
        is("dropsNext(" + plans.length + ")", PlanShelves.NOT_FOUND, x.dropsNext(plans.length));
    }

    /** That two objects tell the same of themselves. */
    void same(String after, List<String> want, List<String> got) {
        is("the number of things told " + after, want.size(), got.size());
        for (int place = 0; place < want.size() && place < got.size(); place++) {
            if (!want.get(place).equals(got.get(place))) {
                is(got.get(place) + ", not " + want.get(place) + ", " + after + ", which as a whole", 1, 0);
                return;
            }
        }
    }

    void end() {
        close();
        System.out.println(program + ": " + asked + " answers, " + wrong + " not as due");
        System.out.println(passed + " passed, " + failed + " failed");
        if (wrong != 0) {
            System.exit(1);
        }
    }

    private void close() {
        if (!test.isEmpty() && wrong == wrongAhead) {
            passed++;
        } else if (wrong != wrongAhead) {
            failed++;
            System.out.println("FAILED: " + program + ", " + test);
        }
    }

    /** Makes a text the text of an object. */
    static void type(PlanShelves x, String text) {
        x.clearText();
        for (char character : text.toCharArray()) {
            x.type(character);
        }
    }

    static int statement(PlanShelves x, String text) {
        type(x, text);
        return x.statement();
    }

    /** An object with the statements of these texts. */
    static PlanShelves with(String... texts) {
        PlanShelves x = new PlanShelves();
        for (String text : texts) {
            statement(x, text);
        }
        return x;
    }

    /** Six statements; without statistics each has the class 0 for all values, so one plan. */
    static PlanShelves six() {
        return with("a=?", "b=?", "c=?", "d=?", "a<?", "b<?");
    }

    /** Adds so many rows with the same value in each column. */
    static void rows(PlanShelves x, int many, int value, int weight) {
        for (int number = 0; number < many; number++) {
            x.row(value, value, value, value, weight);
        }
    }

    /** A plan of its own for each of the first statements of six(): plan n for statement n. */
    static void runFirst(PlanShelves x, int many) {
        for (int statement = 0; statement < many; statement++) {
            x.run(statement, 0, 0, 0, 0);
        }
    }
}
