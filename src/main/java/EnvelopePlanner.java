import java.util.NoSuchElementException;

/** A budget planner: envelopes, income rules, links, recurring items, forecasts and branches of plans. */
public final class EnvelopePlanner {
    private static final int ADD_ENVELOPE = 0;
    private static final int SET_CAP = 1;
    private static final int SET_ROLLOVER = 2;
    private static final int ADD_RULE = 3;
    private static final int REMOVE_RULE = 4;
    private static final int ADD_LINK = 5;
    private static final int REMOVE_LINK = 6;
    private static final int ADD_ITEM = 7;
    private static final int REMOVE_ITEM = 8;
    private static final int RECEIVE = 9;
    private static final int SPEND = 10;
    private static final int MOVE = 11;
    private static final int ADVANCE = 12;

    private static final int NO_REASON = 0;
    private static final int NO_SUCH_PART = 1;
    private static final int OUT_OF_RANGE = 2;
    private static final int FULL = 3;
    private static final int TOO_LITTLE_MONEY = 4;

    private static final int MAX_ENVELOPES = 10;
    private static final int MAX_RULES = 6;
    private static final int MAX_LINKS = 6;
    private static final int MAX_ITEMS = 8;
    private static final int MAX_BRANCHES = 6;
    private static final int MAX_STEPS = 60;
    private static final int MAX_INPUT = 60;
    private static final int MAX_COMMANDS = 30;

    private static final int MAX_AMOUNT = 1000000;
    private static final int MAX_BALANCE = 9000000;
    private static final int MAX_PERIOD = 60;
    private static final int MAX_DAYS = 60;
    private static final int MAX_FORECAST = 200;
    private static final int DAYS_TO_ROLL_OVER = 30;
    private static final int MAX_HALVINGS = 32;

    private static final int POOL = -1;
    private static final int NO_CAP = -1;
    private static final int NOBODY = -1;
    private static final int NO_STEP = -1;
    private static final int NO_ERROR = -1;

    private static final int FIXED = 0;
    private static final int PART_OF_INCOME = 1;
    private static final int PART_OF_REST = 2;
    private static final int FILL = 3;
    private static final int SHARE = 4;

    private static final int INCOME = 0;
    private static final int EXPENSE = 1;

    private static final int KEEPS = 0;
    private static final int RELEASES_ALL = 1;
    private static final int RELEASES_HALF = 2;

    private final Branches branches = new Branches();
    private final Branches saved = new Branches();
    private final Plan trial = new Plan();
    private final Reader reader = new Reader();
    private boolean isSaved;
    private int reason;
    private int answer;
    private int conflictStep;
    private int conflictReason;

    public EnvelopePlanner() {
    }

    // ---- steps

    public int addEnvelope(int cap, int rollover) throws IllegalArgumentException, IllegalStateException {
        return answerTo(tryStep(ADD_ENVELOPE, cap, rollover, 0, 0));
    }

    public int setCap(int envelope, int cap)
            throws IndexOutOfBoundsException, IllegalArgumentException, IllegalStateException {
        return answerTo(tryStep(SET_CAP, envelope, cap, 0, 0));
    }

    public int setRollover(int envelope, int rollover)
            throws IndexOutOfBoundsException, IllegalArgumentException, IllegalStateException {
        return answerTo(tryStep(SET_ROLLOVER, envelope, rollover, 0, 0));
    }

    public int addRule(int kind, int envelope, int number)
            throws IndexOutOfBoundsException, IllegalArgumentException, IllegalStateException {
        return answerTo(tryStep(ADD_RULE, kind, envelope, number, 0));
    }

    public int removeRule(int rule) throws IndexOutOfBoundsException, IllegalStateException {
        return answerTo(tryStep(REMOVE_RULE, rule, 0, 0, 0));
    }

    public int addLink(int from, int to, int threshold, int percentage)
            throws IndexOutOfBoundsException, IllegalArgumentException, IllegalStateException {
        return answerTo(tryStep(ADD_LINK, from, to, threshold, percentage));
    }

    public int removeLink(int link) throws IndexOutOfBoundsException, IllegalStateException {
        return answerTo(tryStep(REMOVE_LINK, link, 0, 0, 0));
    }

    public int addItem(int kind, int envelope, int amount, int period)
            throws IndexOutOfBoundsException, IllegalArgumentException, IllegalStateException {
        return answerTo(tryStep(ADD_ITEM, kind, envelope, amount, period));
    }

    public int removeItem(int item) throws IndexOutOfBoundsException, IllegalStateException {
        return answerTo(tryStep(REMOVE_ITEM, item, 0, 0, 0));
    }

    public int receive(int amount) throws IllegalArgumentException, IllegalStateException {
        return answerTo(tryStep(RECEIVE, amount, 0, 0, 0));
    }

    public int spend(int envelope, int amount)
            throws IndexOutOfBoundsException, IllegalArgumentException, IllegalStateException {
        return answerTo(tryStep(SPEND, envelope, amount, 0, 0));
    }

    public int move(int from, int to, int amount)
            throws IndexOutOfBoundsException, IllegalArgumentException, IllegalStateException {
        return answerTo(tryStep(MOVE, from, to, amount, 0));
    }

    public int advance(int days) throws IllegalArgumentException, IllegalStateException {
        return answerTo(tryStep(ADVANCE, days, 0, 0, 0));
    }

    /** A refusal is answered, not thrown, as readPlan ends with it but answers all the same. */
    private int tryStep(int kind, int a, int b, int c, int d) {
        Branch here = branches.here();
        int refusal = here.plan.refusalOf(kind, a, b, c, d, here.stepCount >= MAX_STEPS);
        if (refusal != NO_REASON) {
            reason = refusal;
            return refusal;
        }
        answer = here.plan.perform(kind, a, b, c, d);
        here.record(kind, a, b, c, d);
        return NO_REASON;
    }

    private int answerTo(int refusal) {
        switch (refusal) {
            case NO_REASON:
                return answer;
            case NO_SUCH_PART:
                throw new IndexOutOfBoundsException("no such part of the plan");
            case OUT_OF_RANGE:
                throw new IllegalArgumentException("an argument is out of range");
            case FULL:
                throw new IllegalStateException("there are as many as possible");
            default:
                throw new IllegalStateException("there is not enough money");
        }
    }

    // ---- the present plan

    public long envelope(int envelope, int what) throws IndexOutOfBoundsException, IllegalArgumentException {
        Envelopes envelopes = branches.here().plan.envelopes;
        requirePart(envelopes.has(envelope));
        requireRange(isWithin(what, 0, 4));
        return envelopes.numberOf(envelope, what);
    }

    public int rule(int rule, int what) throws IndexOutOfBoundsException, IllegalArgumentException {
        Rules rules = branches.here().plan.rules;
        requirePart(rules.has(rule));
        requireRange(isWithin(what, 0, 2));
        return rules.numberOf(rule, what);
    }

    public int split(int envelope, int amount) throws IndexOutOfBoundsException, IllegalArgumentException {
        Plan plan = branches.here().plan;
        requirePart(plan.isPlace(envelope));
        requireRange(isWithin(amount, 1, MAX_AMOUNT));
        trial.copyFrom(plan);
        trial.takeIncome(amount);
        return (int) (trial.moneyIn(envelope) - plan.moneyIn(envelope));
    }

    public long link(int link, int what) throws IndexOutOfBoundsException, IllegalArgumentException {
        Links links = branches.here().plan.links;
        requirePart(links.has(link));
        requireRange(isWithin(what, 0, 4));
        return links.numberOf(link, what);
    }

    public int item(int item, int what) throws IndexOutOfBoundsException, IllegalArgumentException {
        Items items = branches.here().plan.items;
        requirePart(items.has(item));
        requireRange(isWithin(what, 0, 5));
        return items.numberOf(item, what);
    }

    public long total(int what) throws IllegalArgumentException {
        requireRange(isWithin(what, 0, 11));
        return branches.here().plan.numberOf(what);
    }

    public double savedShare() throws ArithmeticException {
        Plan plan = branches.here().plan;
        if (plan.received == 0) {
            throw new ArithmeticException("nothing was received");
        }
        return (double) (plan.received - plan.spent) / (double) plan.received;
    }

    // ---- forecasts

    public long forecast(int days, int what) throws IllegalArgumentException {
        requireRange(isWithin(days, 1, MAX_FORECAST) && isWithin(what, 0, 9));
        trial.copyFrom(branches.here().plan);
        long leastPool = 0;
        int firstMissed = 0;
        for (int n = 1; n <= days; n++) {
            int missed = trial.passDays(1);
            leastPool = n == 1 ? trial.pool : Math.min(leastPool, trial.pool);
            if (missed > 0 && firstMissed == 0) {
                firstMissed = n;
            }
        }
        switch (what) {
            case 8:
                return leastPool;
            case 9:
                return firstMissed;
            default:
                return trial.numberOf(what);
        }
    }

    public int daysUntil(int envelope, int amount)
            throws IndexOutOfBoundsException, IllegalArgumentException, NoSuchElementException {
        Plan plan = branches.here().plan;
        requirePart(plan.envelopes.has(envelope));
        requireRange(isWithin(amount, 0, MAX_BALANCE));
        trial.copyFrom(plan);
        for (int n = 0; n <= MAX_FORECAST; n++) {
            if (trial.moneyIn(envelope) >= amount) {
                return n;
            }
            trial.passDays(1);
        }
        throw new NoSuchElementException("the balance stays below the amount");
    }

    public int spare(int envelope, int days) throws IndexOutOfBoundsException, IllegalArgumentException {
        requirePart(branches.here().plan.envelopes.has(envelope));
        requireRange(isWithin(days, 1, MAX_DAYS));
        int low = 0;
        int high = MAX_AMOUNT + 1;
        for (int n = 0; n < MAX_HALVINGS && high > low + 1; n++) {
            int middle = (low + high) / 2;
            if (canSpare(envelope, middle, days)) {
                low = middle;
            } else {
                high = middle;
            }
        }
        return low;
    }

    private boolean canSpare(int envelope, int amount, int days) {
        trial.copyFrom(branches.here().plan);
        if (!trial.canPay(envelope, amount)) {
            return false;
        }
        trial.pay(envelope, amount);
        trial.settle();
        for (int n = 0; n < days; n++) {
            if (trial.passDays(1) > 0) {
                return false;
            }
        }
        return true;
    }

    // ---- branches

    public int fork() throws IllegalStateException {
        int free = branches.firstFree();
        if (free == NOBODY) {
            throw new IllegalStateException("there are as many branches as possible");
        }
        branches.open(free);
        return free;
    }

    public int select(int branch) throws NoSuchElementException {
        if (branches.branchOrNull(branch) == null) {
            throw new NoSuchElementException("no such branch");
        }
        int previous = branches.present;
        branches.present = branch;
        return previous;
    }

    public int discard(int branch) throws NoSuchElementException, IllegalStateException {
        Branch leaf = branches.branchOrNull(branch);
        if (leaf == null) {
            throw new NoSuchElementException("no such branch");
        }
        if (!branches.isRemovable(branch)) {
            throw new IllegalStateException("the branch cannot be removed");
        }
        leaf.exists = false;
        return leaf.stepCount;
    }

    public int merge(int branch)
            throws NoSuchElementException, IllegalStateException, UnsupportedOperationException {
        Branch leaf = branches.branchOrNull(branch);
        if (leaf == null) {
            throw new NoSuchElementException("no such branch");
        }
        Branch parent = branches.branchOrNull(leaf.parent);
        if (parent == null || !branches.isRemovable(branch)) {
            throw new IllegalStateException("the branch cannot be merged");
        }
        trial.copyFrom(parent.plan);
        int made = replayUntilRefused(leaf, NO_STEP, parent.stepCount);
        if (made < leaf.stepCount) {
            conflictStep = made;
            conflictReason = refusalOnTrial(leaf, made, parent.stepCount + made);
            throw new UnsupportedOperationException("a step would be refused");
        }
        parent.plan.copyFrom(trial);
        parent.recordAllOf(leaf);
        leaf.exists = false;
        return made;
    }

    public int conflict(boolean isReason) throws NoSuchElementException {
        if (conflictReason == NO_REASON) {
            throw new NoSuchElementException("no merge met a refused step");
        }
        return isReason ? conflictReason : conflictStep;
    }

    public long branch(int branch, int what) throws NoSuchElementException, IllegalArgumentException {
        Branch found = branches.branchOrNull(branch);
        if (found == null) {
            throw new NoSuchElementException("no such branch");
        }
        requireRange(isWithin(what, 0, 5));
        switch (what) {
            case 0:
                return found.parent;
            case 1:
                return found.stepCount;
            case 2:
                return branches.childrenOf(branch);
            case 3:
                return found.plan.pool;
            case 4:
                return found.plan.envelopes.sum();
            default:
                return found.plan.day;
        }
    }

    public long difference(int one, int other, int envelope)
            throws NoSuchElementException, IndexOutOfBoundsException {
        Branch first = branches.branchOrNull(one);
        Branch second = branches.branchOrNull(other);
        if (first == null || second == null) {
            throw new NoSuchElementException("no such branch");
        }
        requirePart(isWithin(envelope, POOL, MAX_ENVELOPES - 1));
        return first.plan.moneyIn(envelope) - second.plan.moneyIn(envelope);
    }

    public int step(int step, int what) throws IndexOutOfBoundsException, IllegalArgumentException {
        Branch here = branches.here();
        requirePart(isWithin(step, 0, here.stepCount - 1));
        requireRange(isWithin(what, 0, 4));
        return here.partOf(step, what);
    }

    public int undo() throws IllegalStateException {
        Branch here = branches.here();
        if (here.stepCount == 0) {
            throw new IllegalStateException("there are no steps");
        }
        int last = here.stepCount - 1;
        trial.copyFrom(here.start);
        replayUntilRefused(here, last, 0);
        here.plan.copyFrom(trial);
        here.forget(last);
        return here.stepCount;
    }

    public int dropStep(int step) throws IndexOutOfBoundsException, UnsupportedOperationException {
        Branch here = branches.here();
        requirePart(isWithin(step, 0, here.stepCount - 2));
        trial.copyFrom(here.start);
        if (replayUntilRefused(here, step, 0) < here.stepCount) {
            throw new UnsupportedOperationException("a later step would be refused");
        }
        here.plan.copyFrom(trial);
        here.forget(step);
        return here.stepCount;
    }

    public int clearReason() {
        int kept = reason;
        reason = NO_REASON;
        return kept;
    }

    /** On the trial plan, as a refused step is to leave all branches as they are. */
    private int replayUntilRefused(Branch source, int skipped, int stepsBefore) {
        for (int n = 0; n < source.stepCount; n++) {
            if (n == skipped) {
                continue;
            }
            if (refusalOnTrial(source, n, stepsBefore + n) != NO_REASON) {
                return n;
            }
            trial.perform(source.partOf(n, 0), source.partOf(n, 1), source.partOf(n, 2),
                    source.partOf(n, 3), source.partOf(n, 4));
        }
        return source.stepCount;
    }

    private int refusalOnTrial(Branch source, int step, int stepsThere) {
        return trial.refusalOf(source.partOf(step, 0), source.partOf(step, 1), source.partOf(step, 2),
                source.partOf(step, 3), source.partOf(step, 4), stepsThere >= MAX_STEPS);
    }

    // ---- texts and the snapshot

    public int feed(char character) throws IllegalStateException {
        if (!reader.append(character)) {
            throw new IllegalStateException("the input is full");
        }
        return reader.length;
    }

    public int readPlan() {
        int error = reader.readAll();
        if (error != NO_ERROR) {
            return -100 - error;
        }
        for (int n = 0; n < reader.commandCount; n++) {
            if (tryStep(reader.partOf(n, 0), reader.partOf(n, 1), reader.partOf(n, 2),
                    reader.partOf(n, 3), 0) != NO_REASON) {
                return n;
            }
        }
        return reader.commandCount;
    }

    public int save() {
        saved.copyFrom(branches);
        isSaved = true;
        return saved.count();
    }

    public int restore() throws IllegalStateException {
        if (!isSaved) {
            throw new IllegalStateException("nothing was saved");
        }
        branches.copyFrom(saved);
        return branches.count();
    }

    // ---- what the calls require

    private static void requirePart(boolean exists) {
        if (!exists) {
            throw new IndexOutOfBoundsException("no such part");
        }
    }

    private static void requireRange(boolean isInRange) {
        if (!isInRange) {
            throw new IllegalArgumentException("an argument is out of range");
        }
    }

    private static boolean isWithin(int value, int least, int greatest) {
        return value >= least && value <= greatest;
    }

    private static final class Envelopes {
        private final long[] balance = new long[MAX_ENVELOPES];
        private final int[] cap = new int[MAX_ENVELOPES];
        private final int[] rollover = new int[MAX_ENVELOPES];
        private final long[] spent = new long[MAX_ENVELOPES];
        private int count;

        boolean has(int e) {
            return e >= 0 && e < count && e < MAX_ENVELOPES;
        }

        int append(int newCap, int newRollover) {
            int e = count;
            if (e < 0 || e >= MAX_ENVELOPES) {
                return e;
            }
            balance[e] = 0;
            cap[e] = newCap;
            rollover[e] = newRollover;
            spent[e] = 0;
            count++;
            return e;
        }

        int changeCap(int e, int newCap) {
            if (!has(e)) {
                return 0;
            }
            int previous = cap[e];
            cap[e] = newCap;
            return previous;
        }

        int changeRollover(int e, int newRollover) {
            if (!has(e)) {
                return 0;
            }
            int previous = rollover[e];
            rollover[e] = newRollover;
            return previous;
        }

        boolean isCapped(int e) {
            return e >= 0 && e < count && e < MAX_ENVELOPES && cap[e] != NO_CAP;
        }

        long balanceOf(int e) {
            return e >= 0 && e < count && e < MAX_ENVELOPES ? balance[e] : 0;
        }

        long putWhatFits(int e, long amount) {
            if (e < 0 || e >= count || e >= MAX_ENVELOPES) {
                return 0;
            }
            long fitting = amount;
            if (cap[e] != NO_CAP && cap[e] - balance[e] < amount) {
                // a balance above its cap takes nothing, but loses nothing by that either
                fitting = cap[e] > balance[e] ? cap[e] - balance[e] : 0;
            }
            balance[e] += fitting;
            return fitting;
        }

        void take(int e, long amount) {
            if (e >= 0 && e < count && e < MAX_ENVELOPES) {
                balance[e] -= amount;
            }
        }

        long spendWhatIsThere(int e, long amount) {
            if (e < 0 || e >= count || e >= MAX_ENVELOPES) {
                return 0;
            }
            long part = balance[e] < amount ? balance[e] : amount;
            balance[e] -= part;
            spent[e] += part;
            return part;
        }

        long release(int e) {
            if (e < 0 || e >= count || e >= MAX_ENVELOPES || rollover[e] == KEEPS) {
                return 0;
            }
            long part = rollover[e] == RELEASES_ALL ? balance[e] : balance[e] / 2;
            balance[e] -= part;
            return part;
        }

        long sum() {
            long sum = 0;
            for (int e = 0; e < count && e < MAX_ENVELOPES; e++) {
                sum += balance[e];
            }
            return sum;
        }

        long numberOf(int e, int what) {
            if (!has(e)) {
                return 0;
            }
            switch (what) {
                case 0:
                    return balance[e];
                case 1:
                    return cap[e];
                case 2:
                    return rollover[e];
                case 3:
                    return cap[e] == NO_CAP ? NO_CAP : Math.max(0, cap[e] - balance[e]);
                default:
                    return spent[e];
            }
        }

        void copyFrom(Envelopes other) {
            System.arraycopy(other.balance, 0, balance, 0, MAX_ENVELOPES);
            System.arraycopy(other.cap, 0, cap, 0, MAX_ENVELOPES);
            System.arraycopy(other.rollover, 0, rollover, 0, MAX_ENVELOPES);
            System.arraycopy(other.spent, 0, spent, 0, MAX_ENVELOPES);
            count = other.count;
        }
    }

    private static final class Rules {
        private final int[] kind = new int[MAX_RULES];
        private final int[] target = new int[MAX_RULES];
        private final int[] number = new int[MAX_RULES];
        private int count;

        boolean has(int r) {
            return r >= 0 && r < count && r < MAX_RULES;
        }

        int append(int newKind, int newTarget, int newNumber) {
            int r = count;
            if (r < 0 || r >= MAX_RULES) {
                return r;
            }
            kind[r] = newKind;
            target[r] = newTarget;
            number[r] = newNumber;
            count++;
            return r;
        }

        int remove(int removed) {
            if (!has(removed)) {
                return count;
            }
            for (int r = removed; r + 1 < count && r + 1 < MAX_RULES; r++) {
                kind[r] = kind[r + 1];
                target[r] = target[r + 1];
                number[r] = number[r + 1];
            }
            count--;
            return count;
        }

        int endOfShares(int first) {
            int end = first;
            while (end >= 0 && end < count && end < MAX_RULES && kind[end] == SHARE) {
                end++;
            }
            return end;
        }

        int numberOf(int r, int what) {
            if (!has(r)) {
                return 0;
            }
            switch (what) {
                case 0:
                    return kind[r];
                case 1:
                    return target[r];
                default:
                    return number[r];
            }
        }

        void copyFrom(Rules other) {
            System.arraycopy(other.kind, 0, kind, 0, MAX_RULES);
            System.arraycopy(other.target, 0, target, 0, MAX_RULES);
            System.arraycopy(other.number, 0, number, 0, MAX_RULES);
            count = other.count;
        }
    }

    private static final class Links {
        private final int[] source = new int[MAX_LINKS];
        private final int[] target = new int[MAX_LINKS];
        private final int[] threshold = new int[MAX_LINKS];
        private final int[] percentage = new int[MAX_LINKS];
        private final long[] passed = new long[MAX_LINKS];
        private int count;

        boolean has(int k) {
            return k >= 0 && k < count && k < MAX_LINKS;
        }

        int append(int newSource, int newTarget, int newThreshold, int newPercentage) {
            int k = count;
            if (k < 0 || k >= MAX_LINKS) {
                return k;
            }
            source[k] = newSource;
            target[k] = newTarget;
            threshold[k] = newThreshold;
            percentage[k] = newPercentage;
            passed[k] = 0;
            count++;
            return k;
        }

        int remove(int removed) {
            if (!has(removed)) {
                return count;
            }
            for (int k = removed; k + 1 < count && k + 1 < MAX_LINKS; k++) {
                source[k] = source[k + 1];
                target[k] = target[k + 1];
                threshold[k] = threshold[k + 1];
                percentage[k] = percentage[k + 1];
                passed[k] = passed[k + 1];
            }
            count--;
            return count;
        }

        long numberOf(int k, int what) {
            if (!has(k)) {
                return 0;
            }
            switch (what) {
                case 0:
                    return source[k];
                case 1:
                    return target[k];
                case 2:
                    return threshold[k];
                case 3:
                    return percentage[k];
                default:
                    return passed[k];
            }
        }

        void copyFrom(Links other) {
            System.arraycopy(other.source, 0, source, 0, MAX_LINKS);
            System.arraycopy(other.target, 0, target, 0, MAX_LINKS);
            System.arraycopy(other.threshold, 0, threshold, 0, MAX_LINKS);
            System.arraycopy(other.percentage, 0, percentage, 0, MAX_LINKS);
            System.arraycopy(other.passed, 0, passed, 0, MAX_LINKS);
            count = other.count;
        }
    }

    private static final class Items {
        private final int[] kind = new int[MAX_ITEMS];
        private final int[] target = new int[MAX_ITEMS];
        private final int[] amount = new int[MAX_ITEMS];
        private final int[] period = new int[MAX_ITEMS];
        private final int[] due = new int[MAX_ITEMS];
        private final int[] missed = new int[MAX_ITEMS];
        private int count;

        boolean has(int i) {
            return i >= 0 && i < count && i < MAX_ITEMS;
        }

        int append(int newKind, int newTarget, int newAmount, int newPeriod, int today) {
            int i = count;
            if (i < 0 || i >= MAX_ITEMS) {
                return i;
            }
            kind[i] = newKind;
            target[i] = newTarget;
            amount[i] = newAmount;
            period[i] = newPeriod;
            due[i] = today + newPeriod;
            missed[i] = 0;
            count++;
            return i;
        }

        int remove(int removed) {
            if (!has(removed)) {
                return count;
            }
            for (int i = removed; i + 1 < count && i + 1 < MAX_ITEMS; i++) {
                kind[i] = kind[i + 1];
                target[i] = target[i + 1];
                amount[i] = amount[i + 1];
                period[i] = period[i + 1];
                due[i] = due[i + 1];
                missed[i] = missed[i + 1];
            }
            count--;
            return count;
        }

        int numberOf(int i, int what) {
            if (!has(i)) {
                return 0;
            }
            switch (what) {
                case 0:
                    return kind[i];
                case 1:
                    return target[i];
                case 2:
                    return amount[i];
                case 3:
                    return period[i];
                case 4:
                    return due[i];
                default:
                    return missed[i];
            }
        }

        void copyFrom(Items other) {
            System.arraycopy(other.kind, 0, kind, 0, MAX_ITEMS);
            System.arraycopy(other.target, 0, target, 0, MAX_ITEMS);
            System.arraycopy(other.amount, 0, amount, 0, MAX_ITEMS);
            System.arraycopy(other.period, 0, period, 0, MAX_ITEMS);
            System.arraycopy(other.due, 0, due, 0, MAX_ITEMS);
            System.arraycopy(other.missed, 0, missed, 0, MAX_ITEMS);
            count = other.count;
        }
    }

    private static final class Plan {
        private final Envelopes envelopes = new Envelopes();
        private final Rules rules = new Rules();
        private final Links links = new Links();
        private final Items items = new Items();
        private long pool;
        private int day;
        private long received;
        private long spent;
        private int missed;
        private long passed;
        private long released;

        void copyFrom(Plan other) {
            envelopes.copyFrom(other.envelopes);
            rules.copyFrom(other.rules);
            links.copyFrom(other.links);
            items.copyFrom(other.items);
            pool = other.pool;
            day = other.day;
            received = other.received;
            spent = other.spent;
            missed = other.missed;
            passed = other.passed;
            released = other.released;
        }

        boolean isPlace(int place) {
            return place == POOL || envelopes.has(place);
        }

        long moneyIn(int place) {
            return place == POOL ? pool : envelopes.balanceOf(place);
        }

        long numberOf(int what) {
            switch (what) {
                case 0:
                    return pool;
                case 1:
                    return envelopes.sum();
                case 2:
                    return received;
                case 3:
                    return spent;
                case 4:
                    return missed;
                case 5:
                    return day;
                case 6:
                    return passed;
                case 7:
                    return released;
                case 8:
                    return envelopes.count;
                case 9:
                    return rules.count;
                case 10:
                    return links.count;
                default:
                    return items.count;
            }
        }

        /** The order of these checks is that of the exceptions that the calls list, as the first one counts. */
        int refusalOf(int kind, int a, int b, int c, int d, boolean hasAllSteps) {
            if (!namesParts(kind, a, b)) {
                return NO_SUCH_PART;
            }
            if (!isInRange(kind, a, b, c, d)) {
                return OUT_OF_RANGE;
            }
            if (hasAllSteps || !hasRoom(kind)) {
                return FULL;
            }
            return hasMoney(kind, a, b, c) ? NO_REASON : TOO_LITTLE_MONEY;
        }

        private boolean namesParts(int kind, int a, int b) {
            switch (kind) {
                case SET_CAP:
                case SET_ROLLOVER:
                case SPEND:
                    return envelopes.has(a);
                case ADD_RULE:
                    return envelopes.has(b);
                case REMOVE_RULE:
                    return rules.has(a);
                case ADD_LINK:
                    return envelopes.has(a) && envelopes.has(b);
                case REMOVE_LINK:
                    return links.has(a);
                case ADD_ITEM:
                    return a != EXPENSE || envelopes.has(b);
                case REMOVE_ITEM:
                    return items.has(a);
                case MOVE:
                    return isPlace(a) && isPlace(b);
                default:
                    return true;
            }
        }

        private boolean isInRange(int kind, int a, int b, int c, int d) {
            switch (kind) {
                case ADD_ENVELOPE:
                    return isWithin(a, NO_CAP, MAX_BALANCE) && isWithin(b, KEEPS, RELEASES_HALF);
                case SET_CAP:
                    return isWithin(b, NO_CAP, MAX_BALANCE);
                case SET_ROLLOVER:
                    return isWithin(b, KEEPS, RELEASES_HALF);
                case ADD_RULE:
                    return isRuleNumber(a, c);
                case ADD_LINK:
                    return a != b && isWithin(c, 0, MAX_BALANCE) && isWithin(d, 1, 100);
                case ADD_ITEM:
                    return (a == EXPENSE || a == INCOME && b == 0)
                            && isWithin(c, 1, MAX_AMOUNT) && isWithin(d, 1, MAX_PERIOD);
                case RECEIVE:
                    return isWithin(a, 1, MAX_AMOUNT);
                case SPEND:
                    return isWithin(b, 1, MAX_AMOUNT);
                case MOVE:
                    return a != b && isWithin(c, 1, MAX_AMOUNT);
                case ADVANCE:
                    return isWithin(a, 1, MAX_DAYS);
                default:
                    return true;
            }
        }

        private boolean isRuleNumber(int ruleKind, int number) {
            switch (ruleKind) {
                case FIXED:
                    return isWithin(number, 1, MAX_AMOUNT);
                case PART_OF_INCOME:
                case PART_OF_REST:
                    return isWithin(number, 1, 100);
                case FILL:
                    return number == 0;
                case SHARE:
                    return isWithin(number, 1, 99);
                default:
                    return false;
            }
        }

        private boolean hasRoom(int kind) {
            switch (kind) {
                case ADD_ENVELOPE:
                    return envelopes.count < MAX_ENVELOPES;
                case ADD_RULE:
                    return rules.count < MAX_RULES;
                case ADD_LINK:
                    return links.count < MAX_LINKS;
                case ADD_ITEM:
                    return items.count < MAX_ITEMS;
                default:
                    return true;
            }
        }

        private boolean hasMoney(int kind, int a, int b, int c) {
            switch (kind) {
                case SPEND:
                    return canPay(a, b);
                case MOVE:
                    return moneyIn(a) >= c;
                default:
                    return true;
            }
        }

        /** Checks nothing, as refusalOf is asked ahead of it, so that no step ends halfway. */
        int perform(int kind, int a, int b, int c, int d) {
            switch (kind) {
                case ADD_ENVELOPE:
                    return envelopes.append(a, b);
                case SET_CAP:
                    return envelopes.changeCap(a, b);
                case SET_ROLLOVER:
                    return envelopes.changeRollover(a, b);
                case ADD_RULE:
                    return rules.append(a, b, c);
                case REMOVE_RULE:
                    return rules.remove(a);
                case ADD_LINK:
                    return links.append(a, b, c, d);
                case REMOVE_LINK:
                    return links.remove(a);
                case ADD_ITEM:
                    return items.append(a, b, c, d, day);
                case REMOVE_ITEM:
                    return items.remove(a);
                case ADVANCE:
                    return passDays(a);
                default:
                    return moveMoney(kind, a, b, c);
            }
        }

        private int moveMoney(int kind, int a, int b, int c) {
            long part;
            switch (kind) {
                case RECEIVE:
                    part = takeIncome(a);
                    break;
                case SPEND:
                    part = pay(a, b);
                    break;
                default:
                    part = carry(a, b, c);
                    break;
            }
            settle();
            return (int) part;
        }

        long takeIncome(int amount) {
            received += amount;
            long left = amount;
            int r = 0;
            while (r < rules.count && r < MAX_RULES) {
                if (rules.kind[r] == SHARE) {
                    int end = rules.endOfShares(r);
                    left -= shareOut(r, end, left);
                    r = end > r ? end : r + 1;
                } else {
                    left -= envelopes.putWhatFits(rules.target[r], portionFor(r, amount, left));
                    r++;
                }
            }
            pool += left;
            return left;
        }

        private long portionFor(int r, long amount, long left) {
            if (r < 0 || r >= MAX_RULES) {
                return 0;
            }
            long wanted;
            switch (rules.kind[r]) {
                case FIXED:
                    wanted = rules.number[r];
                    break;
                case PART_OF_INCOME:
                    wanted = amount * rules.number[r] / 100;
                    break;
                case PART_OF_REST:
                    wanted = left * rules.number[r] / 100;
                    break;
                default:
                    wanted = envelopes.isCapped(rules.target[r]) ? left : 0;
                    break;
            }
            return wanted < left ? wanted : left;
        }

        private long shareOut(int first, int end, long left) {
            if (first < 0) {
                return 0;
            }
            long weight = 0;
            for (int r = first; r < end && r < MAX_RULES; r++) {
                weight += rules.number[r];
            }
            if (weight <= 0) {
                return 0;
            }
            long cents = left;
            for (int r = first; r < end && r < MAX_RULES; r++) {
                cents -= left * rules.number[r] / weight;
            }
            long taken = 0;
            for (int r = first; r < end && r < MAX_RULES; r++) {
                long part = left * rules.number[r] / weight;
                if (cents > 0) {
                    part++;
                    cents--;
                }
                taken += envelopes.putWhatFits(rules.target[r], part);
            }
            return taken;
        }

        boolean canPay(int e, int amount) {
            return envelopes.balanceOf(e) + pool >= amount;
        }

        long pay(int e, int amount) {
            long missing = amount - envelopes.spendWhatIsThere(e, amount);
            pool -= missing;
            spent += amount;
            return missing;
        }

        private long carry(int from, int to, int amount) {
            long part = amount;
            if (to == POOL) {
                pool += part;
            } else {
                part = envelopes.putWhatFits(to, amount);
            }
            if (from == POOL) {
                pool -= part;
            } else {
                envelopes.take(from, part);
            }
            return part;
        }

        void settle() {
            int done = 0;
            // every round but the last one uses up a link
            for (int round = 0; round <= MAX_LINKS; round++) {
                boolean isQuiet = true;
                for (int k = 0; k < links.count && k < MAX_LINKS; k++) {
                    if ((done >> k & 1) == 0 && passOn(k)) {
                        done |= 1 << k;
                        isQuiet = false;
                    }
                }
                if (isQuiet) {
                    return;
                }
            }
        }

        private boolean passOn(int k) {
            if (k < 0 || k >= MAX_LINKS) {
                return false;
            }
            long excess = envelopes.balanceOf(links.source[k]) - links.threshold[k];
            if (excess <= 0) {
                return false;
            }
            long part = envelopes.putWhatFits(links.target[k], excess * links.percentage[k] / 100);
            envelopes.take(links.source[k], part);
            links.passed[k] += part;
            passed += part;
            return part > 0;
        }

        int passDays(int days) {
            int missedBefore = missed;
            for (int n = 0; n < days; n++) {
                day++;
                for (int i = 0; i < items.count && i < MAX_ITEMS; i++) {
                    if (items.due[i] != day) {
                        continue;
                    }
                    items.due[i] += items.period[i];
                    if (items.kind[i] == INCOME) {
                        takeIncome(items.amount[i]);
                    } else if (canPay(items.target[i], items.amount[i])) {
                        pay(items.target[i], items.amount[i]);
                    } else {
                        items.missed[i]++;
                        missed++;
                        continue;
                    }
                    settle();
                }
                if (day % DAYS_TO_ROLL_OVER == 0) {
                    rollOver();
                    settle();
                }
            }
            return missed - missedBefore;
        }

        private void rollOver() {
            for (int e = 0; e < envelopes.count; e++) {
                long part = envelopes.release(e);
                pool += part;
                released += part;
            }
        }
    }

    private static final class Branch {
        private static final int WIDTH = 5;

        private final Plan start = new Plan();
        private final Plan plan = new Plan();
        private final int[] parts = new int[MAX_STEPS * WIDTH];
        private int stepCount;
        private int parent = NOBODY;
        private boolean exists;

        int partOf(int step, int what) {
            if (step < 0 || step >= MAX_STEPS || what < 0 || what >= WIDTH) {
                return 0;
            }
            return parts[step * WIDTH + what];
        }

        void record(int kind, int a, int b, int c, int d) {
            if (stepCount < 0 || stepCount >= MAX_STEPS) {
                return;
            }
            int at = stepCount * WIDTH;
            parts[at] = kind;
            parts[at + 1] = a;
            parts[at + 2] = b;
            parts[at + 3] = c;
            parts[at + 4] = d;
            stepCount++;
        }

        void recordAllOf(Branch other) {
            for (int n = 0; n < other.stepCount; n++) {
                record(other.partOf(n, 0), other.partOf(n, 1), other.partOf(n, 2),
                        other.partOf(n, 3), other.partOf(n, 4));
            }
        }

        void forget(int step) {
            if (step < 0 || step >= stepCount || stepCount > MAX_STEPS) {
                return;
            }
            for (int at = step * WIDTH; at + WIDTH < stepCount * WIDTH; at++) {
                parts[at] = parts[at + WIDTH];
            }
            stepCount--;
        }

        void beginWith(Plan origin, int newParent) {
            start.copyFrom(origin);
            plan.copyFrom(origin);
            stepCount = 0;
            parent = newParent;
            exists = true;
        }

        void copyFrom(Branch other) {
            start.copyFrom(other.start);
            plan.copyFrom(other.plan);
            System.arraycopy(other.parts, 0, parts, 0, MAX_STEPS * WIDTH);
            stepCount = other.stepCount;
            parent = other.parent;
            exists = other.exists;
        }
    }

    private static final class Branches {
        private final Branch root = new Branch();
        private final Branch[] list = new Branch[MAX_BRANCHES];
        private int present;

        Branches() {
            root.exists = true;
            list[0] = root;
            for (int n = 1; n < MAX_BRANCHES; n++) {
                list[n] = new Branch();
            }
        }

        Branch branchOrNull(int number) {
            if (number < 0 || number >= MAX_BRANCHES) {
                return null;
            }
            Branch found = list[number];
            return found != null && found.exists ? found : null;
        }

        Branch here() {
            Branch found = branchOrNull(present);
            return found != null ? found : root;
        }

        int count() {
            int count = 0;
            for (int n = 0; n < MAX_BRANCHES; n++) {
                if (branchOrNull(n) != null) {
                    count++;
                }
            }
            return count;
        }

        int childrenOf(int number) {
            int children = 0;
            for (int n = 0; n < MAX_BRANCHES; n++) {
                Branch child = branchOrNull(n);
                if (child != null && child.parent == number) {
                    children++;
                }
            }
            return children;
        }

        boolean isRemovable(int number) {
            return number != 0 && number != present && childrenOf(number) == 0;
        }

        int firstFree() {
            for (int n = 0; n < MAX_BRANCHES; n++) {
                if (branchOrNull(n) == null) {
                    return n;
                }
            }
            return NOBODY;
        }

        void open(int number) {
            if (number < 0 || number >= MAX_BRANCHES) {
                return;
            }
            Branch opened = list[number];
            if (opened != null) {
                opened.beginWith(here().plan, present);
            }
        }

        void copyFrom(Branches other) {
            for (int n = 0; n < MAX_BRANCHES; n++) {
                Branch mine = list[n];
                Branch theirs = other.list[n];
                if (mine != null && theirs != null) {
                    mine.copyFrom(theirs);
                }
            }
            present = other.present;
        }
    }

    /** Keeps the commands until all of the input is read, as none is carried out if there is an error. */
    private static final class Reader {
        private static final int WIDTH = 4;
        private static final int MAX_DIGITS = 7;
        private static final int THE_END = -1;

        private final char[] text = new char[MAX_INPUT];
        private final int[] commands = new int[MAX_COMMANDS * WIDTH];
        private int length;
        private int commandCount;
        private int at;
        private int number;

        boolean append(char character) {
            if (length < 0 || length >= MAX_INPUT) {
                return false;
            }
            text[length] = character;
            length++;
            return true;
        }

        int partOf(int command, int what) {
            if (command < 0 || command >= MAX_COMMANDS || what < 0 || what >= WIDTH) {
                return 0;
            }
            return commands[command * WIDTH + what];
        }

        int readAll() {
            at = 0;
            commandCount = 0;
            boolean isGood = readCommand();
            // a command takes a character at least, so that the input ends before the bound does
            for (int n = 0; n < MAX_INPUT && isGood && at < length; n++) {
                isGood = accept(';') && readCommand();
            }
            length = 0;
            return isGood ? NO_ERROR : at;
        }

        private boolean readCommand() {
            int letter = next();
            switch (letter) {
                case 'n':
                    at++;
                    return keep(ADD_ENVELOPE, NO_CAP, KEEPS, 0);
                case 'r':
                    at++;
                    return readNumber() && keep(RECEIVE, number, 0, 0);
                case 's':
                    at++;
                    return readSpending();
                case 'm':
                    at++;
                    return readMove();
                case 'd':
                    at++;
                    return readNumber() && keep(ADVANCE, number, 0, 0);
                default:
                    return false;
            }
        }

        private boolean readSpending() {
            int place = next() - '0';
            return acceptDigit() && accept(':') && readNumber() && keep(SPEND, place, number, 0);
        }

        private boolean readMove() {
            int from = next() == 'p' ? POOL : next() - '0';
            if (!acceptPlace() || !accept('>')) {
                return false;
            }
            int to = next() == 'p' ? POOL : next() - '0';
            return acceptPlace() && accept(':') && readNumber() && keep(MOVE, from, to, number);
        }

        private boolean readNumber() {
            number = 0;
            int digits = 0;
            while (digits < MAX_DIGITS && isDigit(next())) {
                number = number * 10 + (next() - '0');
                digits++;
                at++;
            }
            return digits > 0;
        }

        private boolean acceptPlace() {
            return accept('p') || acceptDigit();
        }

        private boolean acceptDigit() {
            if (!isDigit(next())) {
                return false;
            }
            at++;
            return true;
        }

        private boolean accept(char sign) {
            if (next() != sign) {
                return false;
            }
            at++;
            return true;
        }

        private int next() {
            return at >= 0 && at < length && at < MAX_INPUT ? text[at] : THE_END;
        }

        private boolean isDigit(int sign) {
            return sign >= '0' && sign <= '9';
        }

        private boolean keep(int kind, int a, int b, int c) {
            if (commandCount < 0 || commandCount >= MAX_COMMANDS) {
                return false;
            }
            int first = commandCount * WIDTH;
            commands[first] = kind;
            commands[first + 1] = a;
            commands[first + 2] = b;
            commands[first + 3] = c;
            commandCount++;
            return true;
        }
    }
}
