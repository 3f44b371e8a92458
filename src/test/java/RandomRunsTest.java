import java.util.ArrayList;
import java.util.List;

/**
 * Runs of 512 calls on a GainTables and on the Model, whose answers must be the same. A second
 * GainTables gets only those calls that were no errors: it must always look like the first one,
 * so a call that returns an error code changes nothing, and a question changes nothing.
 */
final class RandomRunsTest {
    private static final Check check = new Check("RandomRunsTest");
    private static final int CALLS = 512;

    public static void main(String[] args) {
        int first = args.length > 0 ? Integer.parseInt(args[0]) : 1;
        int last = args.length > 1 ? Integer.parseInt(args[1]) : Math.max(first, 300);
        for (int run = first; run <= last; run++) {
            run(run);
        }
        check.end();
    }

    private static void run(int run) {
        RandomCalls calls = new RandomCalls(run);
        GainTables table = new GainTables();
        GainTables twin = new GainTables();
        Model model = new Model();
        List<String> done = new ArrayList<>();
        for (int i = 0; i < CALLS; i++) {
            Call call = calls.next(table);
            int answer = call.on(table);
            int due = call.on(model);
            done.add(call + " = " + answer);
            check.due("run " + run + ", call " + i + ", " + call, answer, due);
            if (answer != due) {
                tell(done);
                return;
            }
            if (!Look.isError(answer) && !isQuestion(call.name())) {
                call.on(twin);
            }
            String look = Look.all(table);
            check.due("run " + run + ", the twin behind call " + i + ", " + call,
                    Look.all(twin), look);
            if (i % 8 == 0) {
                compareLooks(run, i, table, model);
            }
            check.due("run " + run + ", accounts behind call " + i, table.account(0)
                    + table.account(1) + table.account(2) + table.account(3), table.account(4));
        }
        while (table.count(9) > 0) {
            check.due("undo", table.undo(), model.undo());
            compareLooks(run, CALLS, table, model);
        }
    }

    private static boolean isQuestion(String name) {
        return List.of("count", "axis", "border", "region", "operator", "account", "gain", "trail",
                "refusal", "effect", "valueAt", "chatter", "calmReach", "steepest").contains(name);
    }

    /** All that the looking methods tell, also a little beyond their ranges. */
    private static void compareLooks(int run, int i, GainTables table, Model model) {
        String where = "run " + run + ", behind call " + i + ", ";
        for (int what = -1; what <= 12; what++) {
            check.due(where + "count " + what, table.count(what), model.count(what));
        }
        for (int axis = -1; axis <= 2; axis++) {
            for (int what = -1; what <= 6; what++) {
                check.due(where + "axis " + what, table.axis(axis, what), model.axis(axis, what));
            }
            for (int border = -1; border <= 6; border++) {
                for (int what = -1; what <= 3; what++) {
                    check.due(where + "border", table.border(axis, border, what),
                            model.border(axis, border, what));
                }
            }
        }
        for (int column = -1; column <= 7; column++) {
            for (int row = -1; row <= 7; row++) {
                for (int what = -1; what <= 4; what++) {
                    check.due(where + "region", table.region(column, row, what),
                            model.region(column, row, what));
                }
            }
        }
        for (int number = -1; number <= 5; number++) {
            check.due(where + "account", table.account(number), model.account(number));
            for (int what = -1; what <= 4; what++) {
                check.due(where + "operator", table.operator(number, what),
                        model.operator(number, what));
                check.due(where + "gain", table.gain(number, what), model.gain(number, what));
            }
        }
        for (int back = -1; back <= 21; back++) {
            for (int what = -1; what <= 8; what++) {
                check.due(where + "trail", table.trail(back, what), model.trail(back, what));
            }
        }
    }

    private static void tell(List<String> done) {
        for (int i = Math.max(0, done.size() - 40); i < done.size(); i++) {
            System.out.println("    " + done.get(i));
        }
    }
}
