import java.util.ArrayDeque;
import java.util.Arrays;
import java.util.Random;

/** Random runs of 512 calls, the same on the planner and on the slow model; the seeds are fixed. */
public final class RandomRunsTest {
    private static final String[] CALLS = Calls.NAMES;
    private static final int RUNS = 240;
    /** The last calls of each run are those of moneyIsWhereItBelongs. */
    private static final int RANDOM_CALLS = 497;

    private final Random random;
    private final int mood;
    private final int[] weights = new int[CALLS.length];
    private EnvelopePlanner x = new EnvelopePlanner();
    private SlowModel y = new SlowModel();
    /** Calls that come next: the number of the call, and its arguments, if they are not free. */
    private final ArrayDeque<int[]> waiting = new ArrayDeque<>();

    private RandomRunsTest(long seed) {
        random = new Random(seed);
        mood = (int) (seed % 4);
        for (int n = 0; n < CALLS.length; n++) {
            weights[n] = 1 + random.nextInt(mood == 3 ? 2 : 12);
        }
        if (mood != 3) {
            weights[at("receive")] += 20;
            weights[at("move")] += 10;
        }
        if (mood == 1) {
            // no steps are taken back, so that branches come to have all their steps
            for (String call : new String[] {"undo", "dropStep", "restore"}) {
                weights[at(call)] = 0;
            }
        }
    }

    public static void main(String[] args) {
        for (int seed = 0; seed < RUNS; seed++) {
            new RandomRunsTest(seed).run(seed);
        }
        Checks.finish();
    }

    private static int at(String call) {
        return Calls.numberOf(call);
    }

    private void run(int seed) {
        for (int call = 1; call <= RANDOM_CALLS; call++) {
            if (waiting.isEmpty() && random.nextInt(12) == 0) {
                planAhead();
            }
            int[] next = waiting.isEmpty() ? new int[] {choose(call)} : waiting.remove();
            int kind = next[0];
            int[] a = next.length > 1 ? Arrays.copyOfRange(next, 1, 5) : argumentsOf(kind);
            String text = CALLS[kind] + "(" + a[0] + ", " + a[1] + ", " + a[2] + ", " + a[3] + ")";
            Checks.at("run " + seed + ", call " + call);
            String got = answerOf(kind, a, true);
            String due = answerOf(kind, a, false);
            if (!got.equals(due)) {
                Checks.same(text, got, due);
                return;
            }
            Checks.eq(text, 0, 0);
        }
        moneyIsWhereItBelongs();
    }

    /** No rule of the document makes money or loses it, but receiving and spending. */
    private void moneyIsWhereItBelongs() {
        long pool = x.total(0);
        Checks.eq("the pool is negative", pool < 0 ? 1 : 0, 0);
        Checks.eq("all money", pool + x.total(1), x.total(2) - x.total(3));
        long envelopes = x.total(8);
        for (int e = 0; e < envelopes; e++) {
            Checks.eq("the balance of envelope " + e + " is negative", x.envelope(e, 0) < 0 ? 1 : 0, 0);
        }
    }

    private int choose(int call) {
        if (call < 12 && random.nextInt(3) > 0) {
            return new int[] {0, 0, 0, 3, 3, 5, 7, 9}[random.nextInt(8)];
        }
        int sum = 0;
        for (int w : weights) {
            sum += w;
        }
        int at = random.nextInt(sum);
        int kind = 0;
        while (at >= weights[kind]) {
            at -= weights[kind];
            kind++;
        }
        return kind;
    }

    private void planAhead() {
        if (random.nextBoolean()) {
            waiting.add(new int[] {at("readPlan")});
            for (char sign : text().toCharArray()) {
                waiting.add(new int[] {at("feed"), sign, 0, 0, 0});
            }
            waiting.add(new int[] {at("readPlan")});
            return;
        }
        int leaf = 1 + random.nextInt(5);
        waiting.add(new int[] {at("fork")});
        waiting.add(new int[] {at("select"), leaf, 0, 0, 0});
        addSteps(1 + random.nextInt(mood == 1 ? 20 : 6));
        waiting.add(new int[] {at("select"), random.nextInt(leaf), 0, 0, 0});
        addSteps(random.nextInt(3));
        waiting.add(new int[] {at("merge"), leaf, 0, 0, 0});
        waiting.add(new int[] {at("conflict"), 0, 0, 0, 0});
        waiting.add(new int[] {at("conflict"), 1, 0, 0, 0});
    }

    private void addSteps(int count) {
        for (int n = 0; n < count; n++) {
            waiting.add(new int[] {random.nextInt(Calls.FIRST_QUESTION)});
        }
    }

    private String text() {
        StringBuilder text = new StringBuilder();
        int commands = 1 + random.nextInt(4);
        for (int n = 0; n < commands; n++) {
            String place = random.nextInt(4) == 0 ? "p" : "" + random.nextInt(4);
            String other = random.nextInt(4) == 0 ? "p" : "" + random.nextInt(4);
            int amount = random.nextInt(3) == 0 ? random.nextInt(10000000) : random.nextInt(2000);
            text.append(n == 0 ? "" : ";");
            switch (random.nextInt(6)) {
                case 0 -> text.append("n");
                case 1 -> text.append("r").append(amount);
                case 2 -> text.append("s").append(random.nextInt(4)).append(":").append(amount);
                case 3, 4 -> text.append("m").append(place).append(">").append(other).append(":").append(amount);
                default -> text.append("d").append(random.nextInt(70));
            }
        }
        if (random.nextInt(3) == 0) {
            int at = random.nextInt(text.length());
            String signs = "nrsmdp0:>;9 x";
            switch (random.nextInt(3)) {
                case 0 -> text.deleteCharAt(at);
                case 1 -> text.setCharAt(at, signs.charAt(random.nextInt(signs.length())));
                default -> text.insert(at, signs.charAt(random.nextInt(signs.length())));
            }
        }
        return text.substring(0, Math.min(60, text.length()));
    }

    private int any(int... numbers) {
        return numbers[random.nextInt(numbers.length)];
    }

    private int near(int low, int high) {
        if (random.nextInt(40) == 0) {
            return any(low - 1, high + 1, low, high, Integer.MIN_VALUE, Integer.MAX_VALUE, -1, 0);
        }
        return low + random.nextInt(high - low + 1);
    }

    private int envelopeNumber() {
        return near(0, (int) Math.max(0, y.total(8) - 1));
    }

    private int place() {
        return random.nextInt(3) == 0 ? -1 : envelopeNumber();
    }

    private int amount() {
        return mood == 0 ? near(1, 1000) : mood == 2 ? near(1, 1000000) : near(1, any(30, 2000, 1000000));
    }

    private int cap() {
        return random.nextInt(3) == 0 ? -1 : mood == 0 ? near(0, 1500) : near(0, any(50, 3000, 2000000, 9000000));
    }

    private int branchNumber() {
        return near(0, any(1, 2, 5));
    }

    private int[] argumentsOf(int kind) {
        int[] a = new int[4];
        switch (CALLS[kind]) {
            case "addEnvelope" -> fill(a, cap(), near(0, 2));
            case "setCap" -> fill(a, envelopeNumber(), cap());
            case "setRollover" -> fill(a, envelopeNumber(), near(0, 2));
            case "addRule" -> {
                int rule = near(0, 4);
                int number = rule == 0 ? near(1, any(50, 5000, 1000000)) : rule == 3 ? near(0, 0)
                        : rule == 4 ? near(1, any(3, 99)) : near(1, 100);
                fill(a, rule, envelopeNumber(), number);
            }
            case "addLink" -> fill(a, envelopeNumber(), envelopeNumber(), near(0, any(0, 100, 5000, 9000000)),
                    near(1, 100));
            case "addItem" -> {
                int item = near(0, 1);
                fill(a, item, item == 1 ? envelopeNumber() : near(0, 0), amount(), near(1, any(5, 30, 60)));
            }
            case "removeRule", "removeLink", "removeItem" -> fill(a, near(0, 3));
            case "receive" -> fill(a, amount());
            case "spend" -> fill(a, envelopeNumber(), amount());
            case "move" -> fill(a, place(), place(), amount());
            case "advance" -> fill(a, near(1, any(3, 30, 60)));
            case "envelope", "link" -> fill(a, near(0, any(1, 3, 9)), near(0, 4));
            case "rule" -> fill(a, near(0, 5), near(0, 2));
            case "split" -> fill(a, place(), amount());
            case "item" -> fill(a, near(0, any(1, 3, 7)), near(0, 5));
            case "total" -> fill(a, near(0, 11));
            case "forecast" -> fill(a, near(1, any(5, 40, 200)), near(0, 9));
            case "daysUntil" -> fill(a, envelopeNumber(), near(0, any(100, 5000, 9000000)));
            case "spare" -> fill(a, envelopeNumber(), near(1, any(5, 60)));
            case "select", "discard", "merge" -> fill(a, branchNumber());
            case "branch" -> fill(a, branchNumber(), near(0, 5));
            case "difference" -> fill(a, branchNumber(), branchNumber(), near(-1, any(2, 9)));
            case "step" -> fill(a, near(0, any(5, 20, 60)), near(0, 4));
            case "dropStep" -> fill(a, near(0, any(5, 60)));
            case "conflict" -> fill(a, random.nextInt(2));
            case "feed" -> fill(a, random.nextInt(128));
            default -> fill(a);
        }
        return a;
    }

    private static void fill(int[] a, int... numbers) {
        System.arraycopy(numbers, 0, a, 0, numbers.length);
    }

    private String answerOf(int kind, int[] a, boolean isPlanner) {
        try {
            return isPlanner ? Calls.ofPlanner(x, CALLS[kind], a[0], a[1], a[2], a[3])
                    : Calls.ofModel(y, CALLS[kind], a[0], a[1], a[2], a[3]);
        } catch (RuntimeException thrown) {
            return "throws " + thrown.getClass().getName();
        }
    }
}
