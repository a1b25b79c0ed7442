import java.util.ArrayList;
import java.util.Arrays;
import java.util.List;
import java.util.NoSuchElementException;
import java.util.TreeMap;
import java.util.regex.Matcher;
import java.util.regex.Pattern;

/**
 * A second implementation of the document, to compare with: it keeps nothing but lists of steps, and makes the
 * plan anew from them for every question.
 */
final class SlowModel {
    static final class Refused extends RuntimeException {
        private static final long serialVersionUID = 1;
        final int reason;

        Refused(int reason) {
            super(null, null, false, false);
            this.reason = reason;
        }

        RuntimeException shown() {
            return reason == 1 ? new IndexOutOfBoundsException()
                    : reason == 2 ? new IllegalArgumentException() : new IllegalStateException();
        }
    }

    static final class Branch {
        int parent;
        List<int[]> ahead = new ArrayList<>();
        List<int[]> own = new ArrayList<>();

        Branch copy() {
            Branch b = new Branch();
            b.parent = parent;
            b.ahead = new ArrayList<>(ahead);
            b.own = new ArrayList<>(own);
            return b;
        }

        Plan plan() {
            Plan plan = new Plan();
            for (int[] s : ahead) {
                plan.make(s);
            }
            for (int[] s : own) {
                plan.make(s);
            }
            return plan;
        }
    }

    /** A plan: every part is an array of numbers in the order of the document's "what". */
    static final class Plan {
        List<long[]> envelopes = new ArrayList<>();
        List<int[]> rules = new ArrayList<>();
        List<long[]> links = new ArrayList<>();
        List<int[]> items = new ArrayList<>();
        long pool;
        long received;
        long spent;
        long passedOn;
        long released;
        int missed;
        int day;

        private static void need(boolean holds, int reason) {
            if (!holds) {
                throw new Refused(reason);
            }
        }

        private boolean isEnvelope(int e) {
            return 0 <= e && e < envelopes.size();
        }

        private static boolean in(long low, long x, long high) {
            return low <= x && x <= high;
        }

        int make(int[] s) {
            return make(s, 0);
        }

        /** Makes a step of a branch that has some steps, or throws Refused. */
        int make(int[] s, int stepsThere) {
            int a = s[1];
            int b = s[2];
            int c = s[3];
            int d = s[4];
            switch (s[0]) {
                case 0: {
                    need(in(-1, a, 9000000) && in(0, b, 2), 2);
                    need(envelopes.size() < 10 && stepsThere < 60, 3);
                    envelopes.add(new long[] {0, a, b, 0, 0});
                    return envelopes.size() - 1;
                }
                case 1: {
                    need(isEnvelope(a), 1);
                    need(in(-1, b, 9000000), 2);
                    need(stepsThere < 60, 3);
                    int old = (int) envelopes.get(a)[1];
                    envelopes.get(a)[1] = b;
                    return old;
                }
                case 2: {
                    need(isEnvelope(a), 1);
                    need(in(0, b, 2), 2);
                    need(stepsThere < 60, 3);
                    int old = (int) envelopes.get(a)[2];
                    envelopes.get(a)[2] = b;
                    return old;
                }
                case 3: {
                    need(isEnvelope(b), 1);
                    need(in(0, a, 4), 2);
                    int[][] ranges = {{1, 1000000}, {1, 100}, {1, 100}, {0, 0}, {1, 99}};
                    need(in(ranges[a][0], c, ranges[a][1]), 2);
                    need(rules.size() < 6 && stepsThere < 60, 3);
                    rules.add(new int[] {a, b, c});
                    return rules.size() - 1;
                }
                case 4:
                    return removeFrom(rules, a, stepsThere);
                case 5: {
                    need(isEnvelope(a) && isEnvelope(b), 1);
                    need(a != b && in(0, c, 9000000) && in(1, d, 100), 2);
                    need(links.size() < 6 && stepsThere < 60, 3);
                    links.add(new long[] {a, b, c, d, 0});
                    return links.size() - 1;
                }
                case 6:
                    return removeFrom(links, a, stepsThere);
                case 7: {
                    need(a != 1 || isEnvelope(b), 1);
                    need(in(0, a, 1) && in(1, c, 1000000) && in(1, d, 60) && (a == 1 || b == 0), 2);
                    need(items.size() < 8 && stepsThere < 60, 3);
                    items.add(new int[] {a, b, c, d, day + d, 0});
                    return items.size() - 1;
                }
                case 8:
                    return removeFrom(items, a, stepsThere);
                case 9: {
                    need(in(1, a, 1000000), 2);
                    need(stepsThere < 60, 3);
                    long before = pool;
                    income(a);
                    int came = (int) (pool - before);
                    settle();
                    return came;
                }
                case 10: {
                    need(isEnvelope(a), 1);
                    need(in(1, b, 1000000), 2);
                    need(stepsThere < 60, 3);
                    need(envelopes.get(a)[0] + pool >= b, 4);
                    long before = pool;
                    pay(a, b);
                    int taken = (int) (before - pool);
                    settle();
                    return taken;
                }
                case 11: {
                    need((a == -1 || isEnvelope(a)) && (b == -1 || isEnvelope(b)), 1);
                    need(a != b && in(1, c, 1000000), 2);
                    need(stepsThere < 60, 3);
                    need((a == -1 ? pool : envelopes.get(a)[0]) >= c, 4);
                    long part = b == -1 ? c : put(b, c);
                    pool += b == -1 ? part : a == -1 ? -part : 0;
                    if (a != -1) {
                        envelopes.get(a)[0] -= part;
                    }
                    settle();
                    return (int) part;
                }
                default: {
                    need(in(1, a, 60), 2);
                    need(stepsThere < 60, 3);
                    int before = missed;
                    for (int n = 0; n < a; n++) {
                        nextDay();
                    }
                    return missed - before;
                }
            }
        }

        private static <T> int removeFrom(List<T> list, int n, int stepsThere) {
            need(0 <= n && n < list.size(), 1);
            need(stepsThere < 60, 3);
            list.remove(n);
            return list.size();
        }

        long room(int e) {
            long[] it = envelopes.get(e);
            return it[1] == -1 ? Long.MAX_VALUE : Math.max(0, it[1] - it[0]);
        }

        long put(int e, long amount) {
            long part = Math.min(amount, room(e));
            envelopes.get(e)[0] += part;
            return part;
        }

        void income(long amount) {
            received += amount;
            long left = amount;
            List<int[]> waiting = new ArrayList<>(rules);
            while (!waiting.isEmpty()) {
                int[] rule = waiting.get(0);
                if (rule[0] == 4) {
                    List<int[]> group = new ArrayList<>();
                    while (!waiting.isEmpty() && waiting.get(0)[0] == 4) {
                        group.add(waiting.remove(0));
                    }
                    long weight = group.stream().mapToLong(r -> r[2]).sum();
                    long[] parts = new long[group.size()];
                    for (int n = 0; n < parts.length; n++) {
                        parts[n] = left * group.get(n)[2] / weight;
                    }
                    long cents = left - Arrays.stream(parts).sum();
                    for (int n = 0; n < cents; n++) {
                        parts[n]++;
                    }
                    for (int n = 0; n < parts.length; n++) {
                        left -= put(group.get(n)[1], parts[n]);
                    }
                    continue;
                }
                waiting.remove(0);
                long wish = 0;
                if (rule[0] == 0) {
                    wish = Math.min(rule[2], left);
                } else if (rule[0] == 1) {
                    wish = Math.min(amount * rule[2] / 100, left);
                } else if (rule[0] == 2) {
                    wish = left * rule[2] / 100;
                } else if (envelopes.get(rule[1])[1] != -1) {
                    wish = left;
                }
                left -= put(rule[1], wish);
            }
            pool += left;
        }

        void pay(int e, long amount) {
            long[] it = envelopes.get(e);
            long own = Math.min(amount, it[0]);
            it[0] -= own;
            it[4] += own;
            pool -= amount - own;
            spent += amount;
        }

        void settle() {
            List<long[]> used = new ArrayList<>();
            boolean again = true;
            while (again) {
                again = false;
                for (long[] link : links) {
                    if (used.contains(link)) {
                        continue;
                    }
                    long above = envelopes.get((int) link[0])[0] - link[2];
                    long part = above > 0 ? put((int) link[1], above * link[3] / 100) : 0;
                    if (part > 0) {
                        envelopes.get((int) link[0])[0] -= part;
                        link[4] += part;
                        passedOn += part;
                        used.add(link);
                        again = true;
                    }
                }
            }
        }

        void nextDay() {
            day++;
            for (int[] item : items) {
                if (item[4] == day) {
                    item[4] += item[3];
                    if (item[0] == 1 && envelopes.get(item[1])[0] + pool < item[2]) {
                        item[5]++;
                        missed++;
                    } else {
                        if (item[0] == 0) {
                            income(item[2]);
                        } else {
                            pay(item[1], item[2]);
                        }
                        settle();
                    }
                }
            }
            if (day % 30 == 0) {
                for (long[] e : envelopes) {
                    long kept = e[2] == 0 ? e[0] : e[2] == 1 ? 0 : (e[0] + 1) / 2;
                    pool += e[0] - kept;
                    released += e[0] - kept;
                    e[0] = kept;
                }
                settle();
            }
        }

        long balances() {
            return envelopes.stream().mapToLong(e -> e[0]).sum();
        }

        long total(int what) {
            return new long[] {pool, balances(), received, spent, missed, day, passedOn, released,
                envelopes.size(), rules.size(), links.size(), items.size()}[what];
        }
    }

    private TreeMap<Integer, Branch> branches = new TreeMap<>();
    private int present = 0;
    private TreeMap<Integer, Branch> savedBranches = null;
    private int savedPresent;
    private int reason = 0;
    private int[] conflict = null;
    private final StringBuilder input = new StringBuilder();

    SlowModel() {
        Branch first = new Branch();
        first.parent = -1;
        branches.put(0, first);
    }

    private Branch here() {
        return branches.get(present);
    }

    private static void argument(boolean holds) {
        if (!holds) {
            throw new IllegalArgumentException();
        }
    }

    private static void index(boolean holds) {
        if (!holds) {
            throw new IndexOutOfBoundsException();
        }
    }

    private static void state(boolean holds) {
        if (!holds) {
            throw new IllegalStateException();
        }
    }

    private void known(int... numbers) {
        for (int n : numbers) {
            if (!branches.containsKey(n)) {
                throw new NoSuchElementException();
            }
        }
    }

    private static boolean in(int low, int x, int high) {
        return low <= x && x <= high;
    }

    int make(int kind, int a, int b, int c, int d) {
        int[] s = {kind, a, b, c, d};
        try {
            int answer = here().plan().make(s, here().own.size());
            here().own.add(s);
            return answer;
        } catch (Refused refused) {
            reason = refused.reason;
            throw refused.shown();
        }
    }

    long envelope(int e, int what) {
        Plan plan = here().plan();
        index(in(0, e, plan.envelopes.size() - 1));
        argument(in(0, what, 4));
        long room = plan.room(e);
        return what == 3 ? (room == Long.MAX_VALUE ? -1 : room) : plan.envelopes.get(e)[what];
    }

    long rule(int r, int what) {
        List<int[]> rules = here().plan().rules;
        index(in(0, r, rules.size() - 1));
        argument(in(0, what, 2));
        return rules.get(r)[what];
    }

    long link(int k, int what) {
        List<long[]> links = here().plan().links;
        index(in(0, k, links.size() - 1));
        argument(in(0, what, 4));
        return links.get(k)[what];
    }

    long item(int i, int what) {
        List<int[]> items = here().plan().items;
        index(in(0, i, items.size() - 1));
        argument(in(0, what, 5));
        return items.get(i)[what];
    }

    long split(int e, int amount) {
        Plan plan = here().plan();
        index(in(-1, e, plan.envelopes.size() - 1));
        argument(in(1, amount, 1000000));
        long before = e == -1 ? plan.pool : plan.envelopes.get(e)[0];
        plan.income(amount);
        return (e == -1 ? plan.pool : plan.envelopes.get(e)[0]) - before;
    }

    long total(int what) {
        argument(in(0, what, 11));
        return here().plan().total(what);
    }

    double savedShare() {
        Plan plan = here().plan();
        if (plan.received == 0) {
            throw new ArithmeticException();
        }
        double difference = plan.received - plan.spent;
        double all = plan.received;
        return difference / all;
    }

    long forecast(int days, int what) {
        argument(in(1, days, 200) && in(0, what, 9));
        Plan plan = here().plan();
        List<Long> pools = new ArrayList<>();
        List<Integer> missing = new ArrayList<>();
        for (int n = 1; n <= days; n++) {
            int before = plan.missed;
            plan.nextDay();
            pools.add(plan.pool);
            if (plan.missed != before) {
                missing.add(n);
            }
        }
        if (what == 8) {
            return pools.stream().mapToLong(p -> p).min().getAsLong();
        }
        if (what == 9) {
            return missing.isEmpty() ? 0 : missing.get(0);
        }
        return plan.total(what);
    }

    long daysUntil(int e, int amount) {
        Plan plan = here().plan();
        index(in(0, e, plan.envelopes.size() - 1));
        argument(in(0, amount, 9000000));
        int days = 0;
        while (plan.envelopes.get(e)[0] < amount) {
            if (days == 200) {
                throw new NoSuchElementException();
            }
            plan.nextDay();
            days++;
        }
        return days;
    }

    long spare(int e, int days) {
        index(in(0, e, here().plan().envelopes.size() - 1));
        argument(in(1, days, 60));
        return spareBetween(e, days, 0, 1000001);
    }

    private int spareBetween(int e, int days, int low, int high) {
        if (high == low + 1) {
            return low;
        }
        int middle = (low + high) / 2;
        Plan plan = here().plan();
        boolean can = plan.envelopes.get(e)[0] + plan.pool >= middle;
        if (can) {
            int before = plan.missed;
            plan.pay(e, middle);
            plan.settle();
            for (int n = 0; n < days; n++) {
                plan.nextDay();
            }
            can = plan.missed == before;
        }
        return can ? spareBetween(e, days, middle, high) : spareBetween(e, days, low, middle);
    }

    int fork() {
        state(branches.size() < 6);
        int free = 0;
        while (branches.containsKey(free)) {
            free++;
        }
        Branch b = new Branch();
        b.parent = present;
        b.ahead.addAll(here().ahead);
        b.ahead.addAll(here().own);
        branches.put(free, b);
        return free;
    }

    int select(int b) {
        known(b);
        int old = present;
        present = b;
        return old;
    }

    private long children(int b) {
        return branches.values().stream().filter(x -> x.parent == b).count();
    }

    int discard(int b) {
        known(b);
        state(b != 0 && b != present && children(b) == 0);
        return branches.remove(b).own.size();
    }

    int merge(int b) {
        known(b);
        state(b != 0 && b != present && children(b) == 0);
        Branch leaf = branches.get(b);
        Branch merged = branches.get(leaf.parent).copy();
        Plan plan = merged.plan();
        for (int n = 0; n < leaf.own.size(); n++) {
            try {
                plan.make(leaf.own.get(n), merged.own.size());
                merged.own.add(leaf.own.get(n));
            } catch (Refused refused) {
                conflict = new int[] {n, refused.reason};
                throw new UnsupportedOperationException();
            }
        }
        branches.put(leaf.parent, merged);
        branches.remove(b);
        return leaf.own.size();
    }

    int conflict(boolean isReason) {
        if (conflict == null) {
            throw new NoSuchElementException();
        }
        return conflict[isReason ? 1 : 0];
    }

    long branch(int b, int what) {
        known(b);
        argument(in(0, what, 5));
        Branch it = branches.get(b);
        Plan plan = it.plan();
        return new long[] {it.parent, it.own.size(), children(b), plan.pool, plan.balances(), plan.day}[what];
    }

    long difference(int one, int other, int e) {
        known(one, other);
        index(in(-1, e, 9));
        return money(branches.get(one).plan(), e) - money(branches.get(other).plan(), e);
    }

    private static long money(Plan plan, int e) {
        return e == -1 ? plan.pool : e < plan.envelopes.size() ? plan.envelopes.get(e)[0] : 0;
    }

    int step(int n, int what) {
        index(in(0, n, here().own.size() - 1));
        argument(in(0, what, 4));
        return here().own.get(n)[what];
    }

    int undo() {
        state(!here().own.isEmpty());
        here().own.remove(here().own.size() - 1);
        return here().own.size();
    }

    int dropStep(int n) {
        index(in(0, n, here().own.size() - 2));
        Branch without = here().copy();
        without.own.remove(n);
        try {
            without.plan();
        } catch (Refused refused) {
            throw new UnsupportedOperationException();
        }
        branches.put(present, without);
        return without.own.size();
    }

    int clearReason() {
        int old = reason;
        reason = 0;
        return old;
    }

    int feed(char c) {
        state(input.length() < 60);
        return input.append(c).length();
    }

    private static final String NUMBER = "\\d{1,7}";
    private static final String PLACE = "[0-9p]";
    private static final String COMMAND =
            "(?:n|r" + NUMBER + "|s\\d:" + NUMBER + "|m" + PLACE + ">" + PLACE + ":" + NUMBER + "|d" + NUMBER + ")";
    private static final Pattern TEXT = Pattern.compile(COMMAND + "(?:;" + COMMAND + ")*");

    /** A text can still be continued to a good one if one of these endings makes it good. */
    private static boolean canBegin(String text) {
        String[] endings = {"", "n", "1", ":1", "0:1", ">0:1", "0>0:1", "1;n", ";n"};
        for (String ending : endings) {
            if (TEXT.matcher(text + ending).matches()) {
                return true;
            }
        }
        return false;
    }

    int readPlan() {
        String text = input.toString();
        input.setLength(0);
        if (!TEXT.matcher(text).matches()) {
            int good = 0;
            while (good < text.length() && canBegin(text.substring(0, good + 1))) {
                good++;
            }
            return -100 - good;
        }
        int done = 0;
        for (String command : text.split(";")) {
            int[] numbers = new int[3];
            Matcher m = Pattern.compile("\\d+|p").matcher(command);
            for (int n = 0; m.find(); n++) {
                numbers[n] = m.group().equals("p") ? -1 : Integer.parseInt(m.group());
            }
            try {
                switch (command.charAt(0)) {
                    case 'n' -> make(0, -1, 0, 0, 0);
                    case 'r' -> make(9, numbers[0], 0, 0, 0);
                    case 's' -> make(10, numbers[0], numbers[1], 0, 0);
                    case 'm' -> make(11, numbers[0], numbers[1], numbers[2], 0);
                    default -> make(12, numbers[0], 0, 0, 0);
                }
            } catch (IllegalArgumentException | IllegalStateException | IndexOutOfBoundsException refused) {
                return done;
            }
            done++;
        }
        return done;
    }

    private static TreeMap<Integer, Branch> copyOf(TreeMap<Integer, Branch> all) {
        TreeMap<Integer, Branch> copy = new TreeMap<>();
        all.forEach((n, b) -> copy.put(n, b.copy()));
        return copy;
    }

    int save() {
        savedBranches = copyOf(branches);
        savedPresent = present;
        return branches.size();
    }

    int restore() {
        state(savedBranches != null);
        branches = copyOf(savedBranches);
        present = savedPresent;
        return branches.size();
    }
}
