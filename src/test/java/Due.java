/** Compares answers with those that are due, prints every other one, and ends the program by what it saw. */
final class Due {
    private final String program;
    private int asked = 0;
    private int wrong = 0;
    private String promise = "";

    Due(String program) {
        this.program = program;
    }

    /** Names the promise that the next answers belong to. */
    void promise(int number, String about) {
        promise = "promise " + number + " (" + about + ")";
    }

    void is(String call, long want, long got) {
        asked++;
        if (got != want) {
            wrong++;
            System.out.println(program + ", " + promise + ": " + call + " answered " + got + ", due is " + want);
        }
    }

    /** The numbers that dropsNext tells, place by place, up to its NOT_FOUND. */
    void order(PlanShelves x, int... plans) {
        for (int place = 0; place < plans.length; place++) {
            is("dropsNext(" + place + ")", plans[place], x.dropsNext(place));
        }
        is("dropsNext(" + plans.length + ")", PlanShelves.NOT_FOUND, x.dropsNext(plans.length));
    }

    void end() {
        System.out.println(program + ": " + asked + " answers, " + wrong + " not as due");
        if (wrong != 0) {
            System.exit(1);
        }
    }

    /** Makes a text the text of an object. */
    static void type(PlanShelves x, String text) {
        x.clearText();
        for (char character : text.toCharArray()) {
            x.type(character);
        }
    }

    static int statement(PlanShelves x, String text) {
        type(x, text);
        return x.statement();
    }

    /** An object with the statements of these texts. */
    static PlanShelves with(String... texts) {
        PlanShelves x = new PlanShelves();
        for (String text : texts) {
            statement(x, text);
        }
        return x;
    }
}
