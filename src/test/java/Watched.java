import java.util.List;

/** A planner with the number of calls that it has had: nothing is promised behind the 512th. */
final class Watched {
    private static final int MOST_CALLS = 512;

    private final EnvelopePlanner x = new EnvelopePlanner();
    private int calls = 0;

    /** A planner that has had the first calls of a run. */
    static Watched behind(List<Script.Call> run, int count) {
        Watched it = new Watched();
        for (Script.Call call : run.subList(0, count)) {
            it.ask(call);
        }
        return it;
    }

    String ask(Script.Call call) {
        return ask(call.name(), call.arguments());
    }

    /** What the call answered, or throws. and the name of the exception. */
    String ask(String call, int... arguments) {
        calls++;
        if (calls == MOST_CALLS + 1) {
            Checks.complain("a planner has had more than 512 calls");
        }
        int[] a = java.util.Arrays.copyOf(arguments, 4);
        try {
            return Calls.ofPlanner(x, call, a[0], a[1], a[2], a[3]);
        } catch (RuntimeException thrown) {
            return "throws." + thrown.getClass().getSimpleName();
        }
    }

    private String numbersOf(String call, int part, int last) {
        StringBuilder numbers = new StringBuilder(" " + call + " " + part + ":");
        for (int what = 0; what <= last; what++) {
            numbers.append(" ").append(ask(call, part, what));
        }
        return numbers.toString();
    }

    /** All that the calls of the present plan tell. */
    String plan() {
        StringBuilder plan = new StringBuilder("totals:");
        int[] counts = new int[12];
        for (int what = 0; what <= 11; what++) {
            String total = ask("total", what);
            plan.append(" ").append(total);
            counts[what] = what < 8 ? 0 : Integer.parseInt(total);
        }
        String[] parts = {"envelope", "rule", "link", "item"};
        int[] lasts = {4, 2, 4, 5};
        for (int kind = 0; kind < 4; kind++) {
            for (int part = 0; part < counts[8 + kind]; part++) {
                plan.append(numbersOf(parts[kind], part, lasts[kind]));
            }
        }
        return plan.toString();
    }

    /** Some steps of the present branch. */
    String steps(int first, int end) {
        StringBuilder steps = new StringBuilder();
        for (int step = first; step < end && !ask("step", step, 0).startsWith("throws"); step++) {
            steps.append(numbersOf("step", step, 4));
        }
        return steps.toString();
    }

    String branches() {
        StringBuilder branches = new StringBuilder();
        for (int b = 0; b < 6; b++) {
            branches.append(numbersOf("branch", b, 5)).append(" less branch 0:");
            for (int e = -1; e <= 9; e++) {
                branches.append(" ").append(ask("difference", b, 0, e));
            }
        }
        return branches.append(" present: ").append(ask("select", 0)).toString();
    }

    String conflict() {
        return ask("conflict", 0) + " " + ask("conflict", 1);
    }

    /** The plan from which the present branch began. */
    String start() {
        StringBuilder undone = new StringBuilder();
        for (int n = 0; n < 61 && undone.indexOf("throws") < 0; n++) {
            undone.append(" ").append(ask("undo"));
        }
        return undone + " " + plan();
    }

    /** What the input is good for, with one more digit. */
    String input() {
        ask("clearReason");
        return ask("feed", '1') + " " + ask("readPlan") + " " + ask("clearReason") + " " + plan();
    }

    String saved() {
        return ask("restore") + " " + branches() + " " + plan();
    }

    String later() {
        return ask("advance", 60) + " " + plan();
    }
}
