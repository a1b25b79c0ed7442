import java.util.ArrayList;
import java.util.Arrays;
import java.util.List;
import java.util.function.Function;
import java.util.regex.Matcher;
import java.util.regex.Pattern;

/**
 * Runs of calls on a new object, told in a text: behind each call stands the answer that is due, as in
 * <pre>
 * addEnvelope(-1, 0) = 0   3x receive(5) = 5   # a note
 * spend(0, 16) = throws.State4   input(n;r5) = 4   savedShare() = 2/3
 * </pre>
 * A step that is refused says its reason (throws.Index and throws.Argument have but one); input feeds its text.
 * Whatever is refused is made again on other objects, to see that it changed nothing else.
 */
final class Script {
    record Call(String name, int[] arguments, String due, int reason, String text) {
    }

    private static final Pattern CALL = Pattern.compile("(?:(\\d+)x\\s+)?([a-zA-Z]+)\\(([^)]*)\\)\\s*=\\s*(\\S+)");
    private static final List<String> FORECASTS = List.of("split", "forecast", "daysUntil", "spare");

    private Script() {
    }

    static void run(String sentence, String text) {
        Checks.at(sentence);
        List<Call> calls = callsOf(text);
        Watched planner = new Watched();
        SlowModel model = new SlowModel();
        for (int n = 0; n < calls.size(); n++) {
            Call call = calls.get(n);
            String place = "call " + (n + 1) + ", " + call.text;
            String got = planner.ask(call);
            if (call.due != null) {
                Checks.same(place, got, call.due);
            }
            Checks.same(place + " of the slow model", answerOf(model, call.name, call.arguments), got);
            if (got.startsWith("throws.")) {
                changedNothing(calls, n);
            } else if (FORECASTS.contains(call.name)) {
                sameViews(calls, n, true);
            }
        }
    }

    static String answerOf(SlowModel model, String call, int[] arguments) {
        int[] a = Arrays.copyOf(arguments, 4);
        try {
            return Calls.ofModel(model, call, a[0], a[1], a[2], a[3]);
        } catch (RuntimeException thrown) {
            return "throws." + thrown.getClass().getSimpleName();
        }
    }

    /** A refused call leaves the state as it was; a step keeps its reason, and no other call touches the reason. */
    private static void changedNothing(List<Call> calls, int n) {
        Call refused = calls.get(n);
        boolean isConflict = "throws.UnsupportedOperationException".equals(refused.due) && refused.name.equals("merge");
        sameViews(calls, n, !isConflict);
        Watched with = Watched.behind(calls, n + 1);
        String kept = with.ask("clearReason");
        if (Calls.isStep(refused.name)) {
            Checks.same("the reason behind " + refused.text, kept, "" + refused.reason);
            Checks.same("the reason that was cleared", with.ask("clearReason"), "0");
            return;
        }
        Checks.same("the reason behind " + refused.text, kept, Watched.behind(calls, n).ask("clearReason"));
        Watched other = Watched.behind(calls, n);
        other.ask("receive", 0);
        other.ask(refused);
        Checks.same("the kept reason behind " + refused.text, other.ask("clearReason"), "2");
    }

    private static void sameViews(List<Call> calls, int n, boolean withConflict) {
        sameView(calls, n, Watched::plan);
        sameView(calls, n, Watched::branches);
        sameView(calls, n, x -> x.steps(0, 30));
        sameView(calls, n, x -> x.steps(30, 61));
        sameView(calls, n, Watched::start);
        sameView(calls, n, Watched::input);
        sameView(calls, n, Watched::saved);
        sameView(calls, n, Watched::later);
        if (withConflict) {
            sameView(calls, n, Watched::conflict);
        }
        Watched before = Watched.behind(calls, n);
        for (int b = 0; b < 6; b++) {
            int branch = b;
            if (!before.ask("branch", b, 0).startsWith("throws.")) {
                sameView(calls, n, x -> x.ask("select", branch) + x.plan());
                sameView(calls, n, x -> x.ask("select", branch) + x.steps(0, 30));
                sameView(calls, n, x -> x.ask("select", branch) + x.steps(30, 61));
                sameView(calls, n, x -> x.ask("select", branch) + x.start());
            }
        }
    }

    private static void sameView(List<Call> calls, int n, Function<Watched, String> view) {
        Checks.same("the state behind " + calls.get(n).text, view.apply(Watched.behind(calls, n + 1)),
                view.apply(Watched.behind(calls, n)));
    }

    private static List<Call> callsOf(String text) {
        String plain = text.replaceAll("#[^\n]*", "");
        String rest = CALL.matcher(plain).replaceAll("");
        if (!rest.isBlank()) {
            throw new IllegalStateException("not a call with its answer: " + rest.strip());
        }
        List<Call> calls = new ArrayList<>();
        Matcher m = CALL.matcher(plain);
        while (m.find()) {
            int times = m.group(1) == null ? 1 : Integer.parseInt(m.group(1));
            for (int n = 0; n < times; n++) {
                addCalls(calls, m.group(2), m.group(3), m.group(4));
            }
        }
        return calls;
    }

    private static void addCalls(List<Call> calls, String name, String arguments, String due) {
        if (name.equals("input")) {
            for (int n = 0; n < arguments.length(); n++) {
                String length = n == arguments.length() - 1 ? due : null;
                calls.add(new Call("feed", new int[] {arguments.charAt(n)}, length, 0, "input(" + arguments + ")"));
            }
            return;
        }
        Calls.numberOf(name);
        String[] parts = arguments.isBlank() ? new String[0] : arguments.split(",");
        int[] numbers = new int[parts.length];
        for (int n = 0; n < parts.length; n++) {
            numbers[n] = numberOf(parts[n].strip());
        }
        calls.add(new Call(name, numbers, answer(due), reasonOf(due), name + "(" + arguments + ")"));
    }

    static int numberOf(String argument) {
        return switch (argument) {
            case "true" -> 1;
            case "false" -> 0;
            case "least" -> Integer.MIN_VALUE;
            case "greatest" -> Integer.MAX_VALUE;
            default -> argument.startsWith("'") ? argument.charAt(1) : Integer.parseInt(argument);
        };
    }

    private static String answer(String due) {
        return switch (due) {
            case "throws.Index" -> "throws.IndexOutOfBoundsException";
            case "throws.Argument" -> "throws.IllegalArgumentException";
            case "throws.State", "throws.State3", "throws.State4" -> "throws.IllegalStateException";
            case "throws.None" -> "throws.NoSuchElementException";
            case "throws.Unsupported" -> "throws.UnsupportedOperationException";
            case "throws.Arithmetic" -> "throws.ArithmeticException";
            default -> quotient(due);
        };
    }

    private static String quotient(String due) {
        if (!due.contains("/")) {
            return due;
        }
        String[] parts = due.split("/");
        return "" + Double.parseDouble(parts[0]) / Double.parseDouble(parts[1]);
    }

    private static int reasonOf(String due) {
        return switch (due) {
            case "throws.Index" -> 1;
            case "throws.Argument" -> 2;
            case "throws.State3" -> 3;
            case "throws.State4" -> 4;
            default -> 0;
        };
    }
}
