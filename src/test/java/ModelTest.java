import java.util.ArrayDeque;
import java.util.ArrayList;
import java.util.Deque;
import java.util.List;

/** All promises: runs of calls that are drawn by a fixed rule, each answered by the class and by the model. */
public final class ModelTest {
    private static final int RUNS = 4000;
    private static final int CALLS = 512;
    private static final int[] WILD = {-1, -4, -5, 4, 5, 8, 9, 10, 30, 31, 32, 64, 80, 81, 127, 1000, 1001,
        Integer.MIN_VALUE, Integer.MAX_VALUE};
    private static final String[] TEXTS = {"a=?", "b<?", "c>?", "d=?", "a=?&b=?", "b=?&a=?", "a>?&a<?", "c=?&b>?&a=?",
        "d<?&c=?&b=?&a=?", "a=?&a=?&a=?&a=?", "b=?&b=?", "a=?&b=?&c=?&d=?&a=?", "a=?&", "a=?b", "x"};
    private static final String[] QUESTIONS = {"rowOf", "known", "statementOf", "latest", "planOf", "planFor",
        "dropsNext", "count", "classOf", "way", "bestCost", "fault"};

    private record Call(String name, int... arguments) {
        @Override
        public String toString() {
            StringBuilder out = new StringBuilder(name).append('(');
            for (int k = 0; k < arguments.length; k++) {
                out.append(k == 0 ? "" : ", ").append(arguments[k]);
            }
            return out.append(')').toString();
        }
    }

    private long seed;
    /** Few values make conditions hold often; many make them rare. */
    private int values;
    private int wildness;
    private final Deque<Call> planned = new ArrayDeque<>();

    private ModelTest(int run) {
        seed = 1000003L * run + 17;
        values = 1 + below(run % 3 == 0 ? 32 : 6);
        wildness = below(8);
    }

    public static void main(String[] args) {
        int wrong = 0;
        for (int run = 0; run < RUNS && wrong < 3; run++) {
            if (!new ModelTest(run).agrees(run)) {
                wrong++;
            }
        }
        System.out.println("ModelTest: " + RUNS + " runs of " + CALLS + " calls, " + wrong + " not as due");
        if (wrong != 0) {
            System.exit(1);
        }
    }

    private boolean agrees(int run) {
        PlanShelves x = new PlanShelves();
        Model model = new Model();
        List<String> told = new ArrayList<>();
        for (int number = 0; number < CALLS; number++) {
            Call call = next(model);
            int want = model.answer(call.name(), call.arguments());
            int got = answer(x, call.name(), call.arguments());
            told.add(call + " = " + got);
            if (want != got) {
                System.out.println("ModelTest, run " + run + ", call " + number + ": due is " + want + " at the end of");
                told.subList(Math.max(0, told.size() - 60), told.size()).forEach(System.out::println);
                return false;
            }
        }
        return true;
    }

    private int below(int bound) {
        seed = seed * 6364136223846793005L + 1442695040888963407L;
        return (int) ((seed >>> 33) % bound);
    }

    private int wildOr(int number) {
        return below(200) < wildness ? WILD[below(WILD.length)] : number;
    }

    private int value() {
        return wildOr(below(20) == 0 ? 31 : below(values));
    }

    private Call next(Model model) {
        if (!planned.isEmpty()) {
            return planned.remove();
        }
        int dice = below(100);
        if (dice < 35) {
            return question(model);
        }
        if (dice < 60) {
            return values("run", model);
        }
        if (dice < 70) {
            return new Call("row", value(), value(), value(), value(), wildOr(1 + below(below(3) == 0 ? 999 : 20)));
        }
        return change(dice, model);
    }

    private Call change(int dice, Model model) {
        switch (dice) {
            case 70: case 71: return new Call("dropRow", wildOr(below(12)));
            case 72: case 73: case 74: case 75: case 76: return new Call("index", wildOr(below(4)), wildOr(below(2)));
            case 77: case 78: case 79: case 80: return new Call("analyse");
            case 81: case 82: case 83: case 84: return new Call("pin", plan(model), wildOr(below(3) == 0 ? 0 : 1));
            case 85: case 86: return new Call("drop", plan(model));
            case 87: case 88: case 89: return setting();
            case 90: case 91: case 92: case 93: return new Call("undo");
            case 94: return new Call("type", wildOr("abcd=<>?& ".charAt(below(10))));
            case 95: return new Call("statement");
            case 96: return new Call("clearText");
            default: return typed(TEXTS[below(TEXTS.length)]);
        }
    }

    private Call setting() {
        int what = below(5);
        int[] most = {1001, 1001, 8, 4, 9};
        return new Call("set", wildOr(what), wildOr(below(most[what])));
    }

    private Call typed(String text) {
        for (char character : text.toCharArray()) {
            planned.add(new Call("type", character));
        }
        planned.add(new Call("fault", below(2)));
        planned.add(new Call("statement"));
        return new Call("clearText");
    }

    /** Mostly one that is kept: the model is asked, as each call of the object counts. */
    private int plan(Model model) {
        int kept = model.answer("planFor", new int[] {below(6), below(3) * (1 + below(2) * 3)});
        int free = model.answer("dropsNext", new int[] {below(4)});
        return wildOr(kept >= 0 ? kept : free >= 0 ? free : below(20));
    }

    private Call values(String name, Model model) {
        int statements = model.answer("count", new int[] {4});
        int[] a = {wildOr(below(Math.max(1, statements))), 0, 0, 0, 0};
        int conditions = model.answer("statementOf", new int[] {a[0], 0});
        for (int k = 0; k < 4; k++) {
            a[1 + k] = k < conditions ? value() : wildOr(0);
        }
        return new Call(name, a);
    }

    private Call question(Model model) {
        String name = QUESTIONS[below(QUESTIONS.length)];
        switch (name) {
            case "rowOf": return new Call(name, wildOr(below(12)), wildOr(below(5)));
            case "known": return new Call(name, wildOr(below(4)), value());
            case "statementOf": return new Call(name, wildOr(below(6)), wildOr(10 * below(3) + below(4)));
            case "latest": return new Call(name, wildOr(below(8)));
            case "planOf": return new Call(name, plan(model), wildOr(below(8)));
            case "planFor": return new Call(name, wildOr(below(6)), wildOr(below(below(2) == 0 ? 3 : 81)));
            case "dropsNext": return new Call(name, wildOr(below(5)));
            case "count": return new Call(name, wildOr(below(5) == 0 ? 20 + below(5) : below(14)));
            case "classOf": case "way": return values(name, model);
            case "fault": return new Call(name, wildOr(below(2)));
            default: return new Call(name);
        }
    }

    private static int answer(PlanShelves x, String call, int[] a) {
        return switch (call) {
            case "row" -> x.row(a[0], a[1], a[2], a[3], a[4]);
            case "dropRow" -> x.dropRow(a[0]);
            case "index" -> x.index(a[0], a[1]);
            case "analyse" -> x.analyse();
            case "rowOf" -> x.rowOf(a[0], a[1]);
            case "known" -> x.known(a[0], a[1]);
            case "statement" -> x.statement();
            case "statementOf" -> x.statementOf(a[0], a[1]);
            case "run" -> x.run(a[0], a[1], a[2], a[3], a[4]);
            case "latest" -> x.latest(a[0]);
            case "pin" -> x.pin(a[0], a[1]);
            case "drop" -> x.drop(a[0]);
            case "set" -> x.set(a[0], a[1]);
            case "planOf" -> x.planOf(a[0], a[1]);
            case "planFor" -> x.planFor(a[0], a[1]);
            case "dropsNext" -> x.dropsNext(a[0]);
            case "count" -> x.count(a[0]);
            case "classOf" -> x.classOf(a[0], a[1], a[2], a[3], a[4]);
            case "way" -> x.way(a[0], a[1], a[2], a[3], a[4]);
            case "bestCost" -> x.bestCost();
            case "undo" -> x.undo();
            case "type" -> x.type(a[0]);
            case "clearText" -> x.clearText();
            case "fault" -> x.fault(a[0]);
            default -> throw new IllegalArgumentException(call);
        };
    }
}
