/** Promises 25 to 39: branches, texts and the snapshot. */
public final class BranchesTest {
    private static final Class<? extends Exception> INDEX = IndexOutOfBoundsException.class;
    private static final Class<? extends Exception> ARGUMENT = IllegalArgumentException.class;
    private static final Class<? extends Exception> STATE = IllegalStateException.class;
    private static final Class<? extends Exception> NONE = java.util.NoSuchElementException.class;
    private static final Class<? extends Exception> UNSUPPORTED = UnsupportedOperationException.class;

    public static void main(String[] args) {
        fork();
        select();
        discard();
        merge();
        mergeReplays();
        mergeRefused();
        mergeCountsSteps();
        conflict();
        branch();
        difference();
        step();
        undo();
        undoKeepsTheStart();
        dropStep();
        dropStepRefused();
        clearReason();
        feed();
        readPlan();
        readPlanCarriesOut();
        readPlanErrors();
        save();
        restore();
        Checks.finish();
    }

    private static EnvelopePlanner withMoney() {
        EnvelopePlanner x = new EnvelopePlanner();
        x.addEnvelope(-1, 0);
        x.addEnvelope(300, 0);
        x.receive(1000);
        x.move(-1, 0, 400);
        return x;
    }

    private static void fork() {
        Checks.at("promise 25");
        EnvelopePlanner x = withMoney();
        String plan = Checks.planOf(x);
        for (int b = 1; b <= 5; b++) {
            Checks.eq("fork()", x.fork(), b);
        }
        Checks.refused(x, "the 6th fork()", STATE, () -> x.fork());
        Checks.eq("branch(0, 1)", x.branch(0, 1), 4);
        Checks.eq("select(3)", x.select(3), 0);
        Checks.same("the plan of the new branch", Checks.planOf(x), plan);
        Checks.eq("branch(3, 1)", x.branch(3, 1), 0);
        Checks.eq("branch(3, 0)", x.branch(3, 0), 0);
        // the branches do not share their plans
        x.spend(0, 100);
        Checks.eq("difference(3, 0, 0)", x.difference(3, 0, 0), -100);
        Checks.eq("difference(1, 0, 0)", x.difference(1, 0, 0), 0);
        // the lowest free number, and the present branch as the parent
        x.discard(4);
        x.discard(2);
        Checks.eq("fork()", x.fork(), 2);
        Checks.eq("branch(2, 0)", x.branch(2, 0), 3);
        Checks.eq("branch(2, 1)", x.branch(2, 1), 0);
        Checks.eq("difference(2, 3, 0)", x.difference(2, 3, 0), 0);
        Checks.eq("fork()", x.fork(), 4);
    }

    private static void select() {
        Checks.at("promise 26");
        EnvelopePlanner x = withMoney();
        x.fork();
        Checks.refused(x, "select(-1)", NONE, () -> x.select(-1));
        Checks.refused(x, "select(2)", NONE, () -> x.select(2));
        Checks.refused(x, "select(6)", NONE, () -> x.select(6));
        Checks.eq("select(1)", x.select(1), 0);
        Checks.eq("select(1)", x.select(1), 1);
        x.addEnvelope(-1, 0);
        Checks.eq("total(8)", x.total(8), 3);
        Checks.eq("select(0)", x.select(0), 1);
        Checks.eq("total(8)", x.total(8), 2);
        Checks.eq("branch(1, 1)", x.branch(1, 1), 1);
    }

    private static void discard() {
        Checks.at("promise 27");
        EnvelopePlanner x = withMoney();
        x.fork();
        x.select(1);
        x.receive(5);
        x.receive(6);
        x.fork();
        Checks.refused(x, "discard(0)", STATE, () -> x.discard(0));
        Checks.refused(x, "discard(1), the present one", STATE, () -> x.discard(1));
        Checks.refused(x, "discard(3)", NONE, () -> x.discard(3));
        Checks.refused(x, "discard(-1)", NONE, () -> x.discard(-1));
        Checks.refused(x, "discard(6)", NONE, () -> x.discard(6));
        x.select(0);
        Checks.refused(x, "discard(1), a parent", STATE, () -> x.discard(1));
        Checks.refused(x, "discard(0), the present one", STATE, () -> x.discard(0));
        Checks.eq("discard(2)", x.discard(2), 0);
        Checks.eq("discard(1)", x.discard(1), 2);
        Checks.refused(x, "discard(1) again", NONE, () -> x.discard(1));
        Checks.eq("total(2)", x.total(2), 1000);
    }

    private static void merge() {
        Checks.at("promise 28");
        EnvelopePlanner x = withMoney();
        x.fork();
        x.select(1);
        x.addEnvelope(9, 1);
        x.addLink(0, 1, 250, 10);
        x.fork();
        x.spend(0, 50);
        Checks.refused(x, "merge(0)", STATE, () -> x.merge(0));
        Checks.refused(x, "merge(1), the present one", STATE, () -> x.merge(1));
        Checks.refused(x, "merge(3)", NONE, () -> x.merge(3));
        Checks.refused(x, "merge(-1)", NONE, () -> x.merge(-1));
        x.select(0);
        Checks.refused(x, "merge(1), a parent", STATE, () -> x.merge(1));
        Checks.eq("merge(2) into a branch that is not present", x.merge(2), 0);
        Checks.refused(x, "branch(2, 0)", NONE, () -> x.branch(2, 0));
        Checks.eq("merge(1)", x.merge(1), 3);
        Checks.refused(x, "branch(1, 0)", NONE, () -> x.branch(1, 0));
        Checks.eq("branch(0, 1)", x.branch(0, 1), 7);
        Checks.eq("envelope(0, 0)", x.envelope(0, 0), 340);
        Checks.eq("envelope(1, 0)", x.envelope(1, 0), 10);
        int[][] due = {{0, 9, 1, 0, 0}, {5, 0, 1, 250, 10}, {10, 0, 50, 0, 0}};
        for (int n = 0; n < 3; n++) {
            for (int what = 0; what <= 4; what++) {
                Checks.eq("step(" + (4 + n) + ", " + what + ")", x.step(4 + n, what), due[n][what]);
            }
        }
        Checks.eq("undo()", x.undo(), 6);
        Checks.eq("envelope(0, 0)", x.envelope(0, 0), 400);
    }

    private static void mergeReplays() {
        Checks.at("promise 28, replaying");
        EnvelopePlanner x = withMoney();
        x.addRule(1, 0, 50);
        x.fork();
        x.select(1);
        x.receive(100);
        Checks.eq("envelope(0, 0)", x.envelope(0, 0), 450);
        x.select(0);
        x.removeRule(0);
        x.spend(0, 30);
        // the income is split by the rules that the parent has now
        Checks.eq("merge(1)", x.merge(1), 1);
        Checks.eq("envelope(0, 0)", x.envelope(0, 0), 370);
        Checks.eq("total(0)", x.total(0), 700);
        // a branch into its parent, while another branch is present, and with other children there
        EnvelopePlanner y = withMoney();
        y.fork();
        y.select(1);
        y.fork();
        y.fork();
        y.select(3);
        y.receive(7);
        y.select(0);
        Checks.eq("merge(3)", y.merge(3), 1);
        Checks.eq("branch(1, 1)", y.branch(1, 1), 1);
        Checks.eq("branch(1, 3)", y.branch(1, 3), 607);
        Checks.eq("branch(0, 3)", y.branch(0, 3), 600);
        // the other child keeps the plan from which it began
        Checks.eq("branch(2, 3)", y.branch(2, 3), 600);
        Checks.eq("branch(1, 2)", y.branch(1, 2), 1);
    }

    private static void mergeRefused() {
        Checks.at("promise 28, refused");
        EnvelopePlanner x = withMoney();
        x.fork();
        x.select(1);
        x.receive(1);
        x.spend(0, 400);
        x.spend(0, 500);
        x.select(0);
        x.spend(0, 200);
        x.clearReason();
        String before = Checks.planOf(x) + Checks.stepsOf(x);
        try {
            Checks.complain("merge(1) answered " + x.merge(1));
        } catch (UnsupportedOperationException due) {
            Checks.eq("conflict(false)", x.conflict(false), 2);
        }
        Checks.eq("conflict(true)", x.conflict(true), 4);
        Checks.eq("clearReason()", x.clearReason(), 0);
        Checks.same("the parent", Checks.planOf(x) + Checks.stepsOf(x), before);
        Checks.eq("branch(1, 1)", x.branch(1, 1), 3);
        // each reason of a step
        x.select(1);
        x.undo();
        x.addEnvelope(-1, 0);
        x.setCap(2, 5);
        x.select(0);
        Checks.eq("merge(1)", x.merge(1), 4);
        x.fork();
        x.addLink(0, 1, 5, 5);
        x.select(1);
        x.addLink(0, 1, 5, 5);
        x.removeLink(0);
        x.addLink(1, 0, 5, 5);
        x.removeLink(0);
        x.select(0);
        x.removeLink(0);
        Checks.eq("merge(1)", x.merge(1), 4);
        x.addRule(0, 0, 1);
        x.fork();
        x.select(1);
        x.removeRule(0);
        x.select(0);
        x.removeRule(0);
        conflictOf(x, 1, 0, 1);
        x.select(1);
        x.undo();
        for (int n = 0; n < 5; n++) {
            x.addRule(0, 0, 1);
        }
        x.select(0);
        x.addRule(0, 0, 1);
        x.addRule(0, 0, 1);
        conflictOf(x, 1, 4, 3);
    }

    private static void conflictOf(EnvelopePlanner x, int branch, int step, int reason) {
        String steps = Checks.stepsOf(x);
        try {
            Checks.complain("merge(" + branch + ") answered " + x.merge(branch));
        } catch (UnsupportedOperationException due) {
            Checks.eq("conflict(false)", x.conflict(false), step);
            Checks.eq("conflict(true)", x.conflict(true), reason);
        }
        Checks.same("the steps behind a refused merge", Checks.stepsOf(x), steps);
    }

    private static void mergeCountsSteps() {
        Checks.at("promise 28, 60 steps");
        EnvelopePlanner x = new EnvelopePlanner();
        x.addEnvelope(-1, 0);
        x.fork();
        x.fork();
        x.select(1);
        for (int n = 0; n < 10; n++) {
            x.receive(5);
        }
        x.select(2);
        x.receive(7);
        x.select(0);
        while (x.branch(0, 1) < 50) {
            x.advance(1);
        }
        Checks.eq("merge(1) up to 60 steps", x.merge(1), 10);
        Checks.eq("branch(0, 1)", x.branch(0, 1), 60);
        conflictOf(x, 2, 0, 3);
        x.undo();
        x.select(2);
        x.spend(0, 3);
        x.select(0);
        // the second step would be the 61st of the parent; that is checked ahead of the money
        conflictOf(x, 2, 1, 3);
        Checks.eq("branch(0, 1)", x.branch(0, 1), 59);
        Checks.eq("undo()", x.undo(), 58);
        Checks.eq("merge(2)", x.merge(2), 2);
        Checks.eq("branch(0, 1)", x.branch(0, 1), 60);
    }

    private static void conflict() {
        Checks.at("promise 29");
        EnvelopePlanner x = withMoney();
        Checks.refused(x, "conflict(true)", NONE, () -> x.conflict(true));
        Checks.refused(x, "conflict(false)", NONE, () -> x.conflict(false));
        x.save();
        x.fork();
        x.select(1);
        x.spend(0, 1000);
        x.select(0);
        x.spend(0, 1000);
        conflictOf(x, 1, 0, 4);
        // it stays behind other calls of merge, a successful one among them, save, restore and undo
        Checks.refused(x, "merge(0)", STATE, () -> x.merge(0));
        x.undo();
        Checks.eq("merge(1)", x.merge(1), 1);
        x.restore();
        x.save();
        x.clearReason();
        Checks.eq("conflict(false)", x.conflict(false), 0);
        Checks.eq("conflict(true)", x.conflict(true), 4);
        // and gives way to the next refused one
        x.addRule(0, 0, 5);
        x.fork();
        x.select(1);
        x.receive(1);
        x.removeRule(0);
        x.select(0);
        x.removeRule(0);
        conflictOf(x, 1, 1, 1);
        Checks.refused(x, "merge(2)", NONE, () -> x.merge(2));
    }

    private static void branch() {
        Checks.at("promise 30");
        EnvelopePlanner x = withMoney();
        x.fork();
        x.fork();
        x.select(1);
        x.advance(7);
        x.spend(0, 500);
        x.fork();
        x.select(0);
        long[][] due = {{-1, 4, 2, 600, 400, 0}, {0, 2, 1, 500, 0, 7}, {0, 0, 0, 600, 400, 0}, {1, 0, 0, 500, 0, 7}};
        for (int b = 0; b < 4; b++) {
            for (int what = 0; what <= 5; what++) {
                Checks.eq("branch(" + b + ", " + what + ")", x.branch(b, what), due[b][what]);
            }
        }
        x.discard(3);
        Checks.eq("branch(1, 2)", x.branch(1, 2), 0);
        Checks.refused(x, "branch(3, 0)", NONE, () -> x.branch(3, 0));
        Checks.refused(x, "branch(-1, 9)", NONE, () -> x.branch(-1, 9));
        Checks.refused(x, "branch(6, 0)", NONE, () -> x.branch(6, 0));
        Checks.refused(x, "branch(0, 6)", ARGUMENT, () -> x.branch(0, 6));
        Checks.refused(x, "branch(0, -1)", ARGUMENT, () -> x.branch(0, -1));
    }

    private static void difference() {
        Checks.at("promise 31");
        EnvelopePlanner x = withMoney();
        x.fork();
        x.select(1);
        x.addEnvelope(-1, 0);
        x.move(0, 2, 150);
        x.move(-1, 1, 30);
        long[] due = {-30, -150, 30, 150, 0, 0, 0, 0, 0, 0, 0};
        for (int e = -1; e <= 9; e++) {
            Checks.eq("difference(1, 0, " + e + ")", x.difference(1, 0, e), due[e + 1]);
            Checks.eq("difference(0, 1, " + e + ")", x.difference(0, 1, e), -due[e + 1]);
            Checks.eq("difference(1, 1, " + e + ")", x.difference(1, 1, e), 0);
        }
        // an envelope that was taken back counts as 0 again
        x.undo();
        x.undo();
        x.undo();
        Checks.eq("difference(1, 0, 2)", x.difference(1, 0, 2), 0);
        Checks.refused(x, "difference(2, 0, 0)", NONE, () -> x.difference(2, 0, 0));
        Checks.refused(x, "difference(0, 2, 99)", NONE, () -> x.difference(0, 2, 99));
        Checks.refused(x, "difference(-1, 6, 99)", NONE, () -> x.difference(-1, 6, 99));
        Checks.refused(x, "difference(0, 1, -2)", INDEX, () -> x.difference(0, 1, -2));
        Checks.refused(x, "difference(0, 1, 10)", INDEX, () -> x.difference(0, 1, 10));
    }

    private static void step() {
        Checks.at("promise 32");
        EnvelopePlanner x = new EnvelopePlanner();
        x.addEnvelope(-1, 2);
        x.addEnvelope(700, 0);
        x.setCap(0, 60);
        x.setRollover(1, 1);
        x.addRule(2, 1, 30);
        x.removeRule(0);
        x.addLink(1, 0, 8, 9);
        x.removeLink(0);
        x.receive(50);
        x.addItem(1, 1, 20, 3);
        x.removeItem(0);
        x.spend(1, 12);
        x.move(-1, 1, 13);
        x.advance(14);
        int[][] due = {{0, -1, 2, 0, 0}, {0, 700, 0, 0, 0}, {1, 0, 60, 0, 0}, {2, 1, 1, 0, 0}, {3, 2, 1, 30, 0},
            {4, 0, 0, 0, 0}, {5, 1, 0, 8, 9}, {6, 0, 0, 0, 0}, {9, 50, 0, 0, 0}, {7, 1, 1, 20, 3},
            {8, 0, 0, 0, 0}, {10, 1, 12, 0, 0}, {11, -1, 1, 13, 0}, {12, 14, 0, 0, 0}};
        for (int n = 0; n < due.length; n++) {
            for (int what = 0; what <= 4; what++) {
                Checks.eq("step(" + n + ", " + what + ")", x.step(n, what), due[n][what]);
            }
        }
        Checks.refused(x, "step(14, 0)", INDEX, () -> x.step(14, 0));
        Checks.refused(x, "step(-1, 9)", INDEX, () -> x.step(-1, 9));
        Checks.refused(x, "step(0, 5)", ARGUMENT, () -> x.step(0, 5));
        Checks.refused(x, "step(0, -1)", ARGUMENT, () -> x.step(0, -1));
        x.fork();
        x.select(1);
        Checks.refused(x, "step(0, 0) of a new branch", INDEX, () -> x.step(0, 0));
    }

    private static void undo() {
        Checks.at("promise 33");
        EnvelopePlanner x = withMoney();
        x.addRule(4, 1, 5);
        x.addItem(0, 0, 77, 3);
        x.addLink(0, 1, 100, 20);
        String[] before = new String[9];
        before[7] = Checks.planOf(x);
        x.receive(100);
        before[8] = Checks.planOf(x);
        x.advance(60);
        Checks.eq("undo()", x.undo(), 8);
        Checks.same("the plan", Checks.planOf(x), before[8]);
        Checks.eq("undo()", x.undo(), 7);
        Checks.same("the plan", Checks.planOf(x), before[7]);
        for (int n = 6; n >= 0; n--) {
            Checks.eq("undo()", x.undo(), n);
        }
        Checks.same("the plan", Checks.planOf(x), Checks.planOf(new EnvelopePlanner()));
        Checks.refused(x, "undo() without steps", STATE, () -> x.undo());
        Checks.eq("addEnvelope(-1, 0)", x.addEnvelope(-1, 0), 0);
        Checks.eq("branch(0, 1)", x.branch(0, 1), 1);
    }

    private static void undoKeepsTheStart() {
        Checks.at("promise 33, the start");
        EnvelopePlanner x = withMoney();
        x.fork();
        x.select(1);
        String start = Checks.planOf(x);
        x.receive(9);
        x.select(0);
        x.undo();
        x.undo();
        x.select(1);
        Checks.eq("undo()", x.undo(), 0);
        // whatever became of the parent
        Checks.same("the plan", Checks.planOf(x), start);
        Checks.refused(x, "undo() of a branch without steps", STATE, () -> x.undo());
    }

    private static void dropStep() {
        Checks.at("promise 34");
        EnvelopePlanner x = new EnvelopePlanner();
        x.addEnvelope(-1, 0);
        x.addRule(0, 0, 30);
        x.addRule(0, 0, 500);
        x.receive(100);
        x.addEnvelope(8, 0);
        Checks.eq("envelope(0, 0)", x.envelope(0, 0), 100);
        Checks.refused(x, "dropStep(4), the last one", INDEX, () -> x.dropStep(4));
        Checks.refused(x, "dropStep(5)", INDEX, () -> x.dropStep(5));
        Checks.refused(x, "dropStep(-1)", INDEX, () -> x.dropStep(-1));
        Checks.eq("dropStep(2)", x.dropStep(2), 4);
        Checks.eq("envelope(0, 0)", x.envelope(0, 0), 30);
        Checks.eq("total(0)", x.total(0), 70);
        Checks.eq("step(2, 0)", x.step(2, 0), 9);
        Checks.eq("step(2, 1)", x.step(2, 1), 100);
        Checks.eq("step(3, 1)", x.step(3, 1), 8);
        // the arguments stay, and their numbers are meant anew
        EnvelopePlanner y = new EnvelopePlanner();
        y.addEnvelope(10, 0);
        y.addEnvelope(20, 0);
        y.setCap(0, 15);
        Checks.eq("dropStep(0)", y.dropStep(0), 2);
        Checks.eq("envelope(0, 1)", y.envelope(0, 1), 15);
        Checks.eq("total(8)", y.total(8), 1);
        Checks.eq("step(1, 1)", y.step(1, 1), 0);
        // the plan of a branch is made from that with which it began
        y.receive(40);
        y.fork();
        y.select(1);
        y.receive(2);
        y.receive(3);
        Checks.eq("dropStep(0)", y.dropStep(0), 1);
        Checks.eq("total(0)", y.total(0), 43);
        Checks.refused(y, "dropStep(0), the only one", INDEX, () -> y.dropStep(0));
        EnvelopePlanner z = new EnvelopePlanner();
        Checks.refused(z, "dropStep(0) without steps", INDEX, () -> z.dropStep(0));
        Checks.refused(z, "dropStep(-1) without steps", INDEX, () -> z.dropStep(-1));
        for (int n = 0; n < 60; n++) {
            z.receive(n + 1);
        }
        Checks.eq("dropStep(0) of 60", z.dropStep(0), 59);
        Checks.eq("total(0)", z.total(0), 1829);
        Checks.eq("receive(1)", z.receive(1), 1);
    }

    private static void dropStepRefused() {
        Checks.at("promise 34, refused");
        EnvelopePlanner x = withMoney();
        x.spend(1, 100);
        Checks.refused(x, "dropStep(0)", UNSUPPORTED, () -> x.dropStep(0));
        Checks.refused(x, "dropStep(2)", UNSUPPORTED, () -> x.dropStep(2));
        Checks.eq("dropStep(3)", x.dropStep(3), 4);
        // the last step alone would be refused
        EnvelopePlanner y = new EnvelopePlanner();
        y.addEnvelope(-1, 0);
        y.receive(10);
        y.advance(1);
        y.spend(0, 10);
        Checks.refused(y, "dropStep(1)", UNSUPPORTED, () -> y.dropStep(1));
        Checks.eq("dropStep(2)", y.dropStep(2), 3);
        // the number of a later step is meant anew, and there is none such then
        EnvelopePlanner z = new EnvelopePlanner();
        z.addItem(0, 0, 5, 5);
        z.addItem(0, 0, 6, 6);
        z.removeItem(1);
        Checks.refused(z, "dropStep(0)", UNSUPPORTED, () -> z.dropStep(0));
    }

    private static void clearReason() {
        Checks.at("promise 35");
        EnvelopePlanner x = withMoney();
        Checks.eq("clearReason()", x.clearReason(), 0);
        try {
            x.receive(0);
        } catch (IllegalArgumentException due) {
            x.receive(1);
        }
        x.fork();
        x.save();
        x.restore();
        x.undo();
        try {
            x.select(9);
        } catch (java.util.NoSuchElementException due) {
            x.dropStep(1);
        }
        Checks.eq("clearReason()", x.clearReason(), 2);
        Checks.eq("clearReason()", x.clearReason(), 0);
        try {
            x.receive(0);
        } catch (IllegalArgumentException due) {
            x.receive(1);
        }
        try {
            x.spend(9, 1);
        } catch (IndexOutOfBoundsException due) {
            x.receive(1);
        }
        Checks.eq("clearReason(), the later one", x.clearReason(), 1);
    }

    private static void feed() {
        Checks.at("promise 36");
        EnvelopePlanner x = new EnvelopePlanner();
        char[] any = {'n', ' ', (char) 0, (char) 255, (char) 65535};
        for (int n = 0; n < 60; n++) {
            Checks.eq("feed()", x.feed(any[n % any.length]), n + 1);
        }
        Checks.refused(x, "the 61st feed()", STATE, () -> x.feed('n'));
        Checks.eq("readPlan()", x.readPlan(), -101);
        Checks.eq("feed('n')", x.feed('n'), 1);
        Checks.eq("readPlan()", x.readPlan(), 1);
    }

    private static void readPlan() {
        Checks.at("promise 37");
        EnvelopePlanner x = new EnvelopePlanner();
        Checks.eq("readPlan()", Checks.read(x, "n;r1000;mp>0:0000300;s0:45;d31;n;m0>1:5;m1>p:2"), 8);
        int[][] due = {{0, -1, 0, 0}, {9, 1000, 0, 0}, {11, -1, 0, 300}, {10, 0, 45, 0}, {12, 31, 0, 0},
            {0, -1, 0, 0}, {11, 0, 1, 5}, {11, 1, -1, 2}};
        for (int n = 0; n < due.length; n++) {
            for (int what = 0; what <= 3; what++) {
                Checks.eq("step(" + n + ", " + what + ")", x.step(n, what), due[n][what]);
            }
            Checks.eq("step(" + n + ", 4)", x.step(n, 4), 0);
        }
        Checks.eq("branch(0, 1)", x.branch(0, 1), 8);
        Checks.eq("total(0)", x.total(0), 702);
        Checks.eq("total(5)", x.total(5), 31);
        Checks.eq("clearReason()", x.clearReason(), 0);
        Checks.eq("the input is empty then", Checks.feed(x, "n"), 1);
        Checks.eq("readPlan()", x.readPlan(), 1);
        // 60 characters, and 30 commands
        EnvelopePlanner y = new EnvelopePlanner();
        Checks.eq("readPlan()", Checks.read(y, "n;n;n;n;n;n;n;n;n;n;d0000001;d0000001;d0000001;d0000001;d001"), 15);
        EnvelopePlanner z = new EnvelopePlanner();
        String many = "n;n;n;n;n;n;n;n;n;n;";
        Checks.eq("readPlan() of 60 that end too early", Checks.read(z, many + many + many), -160);
        Checks.eq("branch(0, 1)", z.branch(0, 1), 0);
        Checks.eq("readPlan() of 30", Checks.read(z, many + many + "n;n;n;n;n;n;n;n;n;n"), 10);
        Checks.eq("clearReason()", z.clearReason(), 3);
    }

    private static void readPlanCarriesOut() {
        Checks.at("promise 37, refused commands");
        String[] texts = {"s0:5", "n;s0:5", "n;s0:0", "r0", "r1000001", "r9999999", "d0", "d61", "m0>1:5", "mp>p:5",
            "mp>0:5", "n;mp>0:5", "n;n;r5;mp>1:5;m1>9:5", "r7;r8;d60;n;s0:16;r9"};
        int[] done = {0, 1, 1, 0, 0, 0, 0, 0, 0, 0, 0, 1, 4, 4};
        int[] reasons = {1, 4, 2, 2, 2, 2, 2, 2, 1, 2, 1, 4, 1, 4};
        for (int n = 0; n < texts.length; n++) {
            EnvelopePlanner x = new EnvelopePlanner();
            Checks.eq("readPlan() of " + texts[n], Checks.read(x, texts[n]), done[n]);
            Checks.eq("clearReason() behind " + texts[n], x.clearReason(), reasons[n]);
            Checks.eq("branch(0, 1) behind " + texts[n], x.branch(0, 1), done[n]);
            Checks.eq("readPlan() again", x.readPlan(), -100);
        }
        // on the present branch, with its 60 steps
        EnvelopePlanner y = new EnvelopePlanner();
        y.fork();
        y.select(1);
        for (int n = 0; n < 58; n++) {
            y.receive(1);
        }
        Checks.eq("readPlan()", Checks.read(y, "d1;n;r5;n"), 2);
        Checks.eq("clearReason()", y.clearReason(), 3);
        Checks.eq("branch(1, 1)", y.branch(1, 1), 60);
        Checks.eq("branch(0, 1)", y.branch(0, 1), 0);
        // the money is checked behind the 60 steps
        Checks.eq("readPlan()", Checks.read(y, "s0:9999"), 0);
        Checks.eq("clearReason()", y.clearReason(), 3);
    }

    private static void readPlanErrors() {
        Checks.at("promise 37, errors");
        Object[][] errors = {{"", 0}, {"x", 0}, {"N", 0}, {";", 0}, {"5", 0}, {"p", 0}, {" n", 0}, {"nn", 1}, {"n5", 1},
            {"n ", 1}, {"n;", 2}, {"n;;", 2}, {"n;x", 2}, {"r", 1}, {"r;", 1}, {"rx", 1}, {"r-5", 1}, {"r5x", 2},
            {"r1234567;", 9}, {"r12345678", 8}, {"r00000000", 8}, {"s", 1}, {"sp", 1}, {"s0", 2}, {"s00", 2},
            {"s0;", 2}, {"s0:", 3}, {"s0:x", 3}, {"s0:p", 3}, {"s0>5", 2}, {"s9:12345678", 10}, {"m", 1}, {"mx", 1},
            {"m:", 1}, {"mp", 2}, {"mp:", 2}, {"m0:", 2}, {"m00", 2}, {"m0>", 3}, {"m0>x", 3}, {"m0>:", 3},
            {"m0>p", 4}, {"m0>p>", 4}, {"m0>p;", 4}, {"m0>p5", 4}, {"m0>p:", 5}, {"m0>p:;", 5}, {"m0>p:12345678", 12},
            {"d", 1}, {"d;", 1}, {"dp", 1}, {"d12:", 3}, {"d12345678", 8}, {"n;r5;s0:7;d", 11}, {"n;r5,n", 4},
            {"r/", 1}, {"r:", 1}, {"s/:5", 1}, {"s::5", 1}, {"m/>0:5", 1}, {"m0>/:5", 3}, {"r5" + (char) 65535, 2}};
        for (Object[] error : errors) {
            EnvelopePlanner x = withMoney();
            String before = Checks.stateOf(x);
            String text = (String) error[0];
            Checks.eq("readPlan() of " + text, Checks.read(x, text), -100 - (Integer) error[1]);
            Checks.eq("clearReason() behind " + text, x.clearReason(), 0);
            Checks.same("the state behind " + text, Checks.stateOf(x), before);
            Checks.eq("the input is empty then", x.feed('r'), 1);
        }
    }

    private static void restoreStart() {
        // the plan with which a branch began, and all numbers of a plan
        EnvelopePlanner y = withMoney();
        y.spend(0, 30);
        y.addItem(1, 0, 1000000, 1);
        y.advance(1);
        y.fork();
        y.select(1);
        y.receive(1);
        String plan = Checks.planOf(y);
        y.save();
        y.select(0);
        y.discard(1);
        y.advance(2);
        y.spend(0, 40);
        y.fork();
        y.restore();
        Checks.same("the plan", Checks.planOf(y), plan);
        Checks.eq("undo()", y.undo(), 0);
        Checks.eq("total(3)", y.total(3), 30);
        Checks.eq("envelope(0, 4)", y.envelope(0, 4), 30);
        Checks.eq("item(0, 5)", y.item(0, 5), 1);
        Checks.eq("total(0)", y.total(0), 600);
    }

    private static void save() {
        Checks.at("promise 38");
        EnvelopePlanner x = withMoney();
        Checks.eq("save()", x.save(), 1);
        x.fork();
        x.fork();
        x.discard(1);
        String state = Checks.stateOf(x);
        Checks.eq("save()", x.save(), 2);
        Checks.same("the state behind save", Checks.stateOf(x), state);
        x.fork();
        x.receive(5);
        x.restore();
        // in place of what was saved before
        Checks.same("the state behind restore", Checks.stateOf(x), state);
    }

    private static void restore() {
        Checks.at("promise 39");
        EnvelopePlanner x = withMoney();
        Checks.refused(x, "restore()", STATE, () -> x.restore());
        x.fork();
        x.select(1);
        x.addItem(0, 0, 9, 2);
        x.addRule(3, 1, 0);
        x.addLink(0, 1, 5, 50);
        x.receive(300);
        x.fork();
        x.advance(3);
        String state = Checks.stateOf(x);
        Checks.eq("save()", x.save(), 3);
        for (int round = 0; round < 2; round++) {
            x.undo();
            x.dropStep(0);
            x.select(0);
            x.discard(2);
            x.merge(1);
            x.removeRule(0);
            x.fork();
            x.fork();
            x.fork();
            Checks.eq("restore()", x.restore(), 3);
            Checks.same("the state behind restore", Checks.stateOf(x), state);
            // the present branch, the steps and the plans with which the branches began are back
            Checks.eq("select(1)", x.select(1), 1);
            Checks.eq("undo()", x.undo(), 4);
            Checks.eq("undo()", x.undo(), 3);
            Checks.eq("total(0)", x.total(0), 600);
            x.restore();
        }
        restoreStart();
        // the input, the kept reason and the conflict do not belong to it
        Checks.feed(x, "d");
        try {
            x.receive(0);
        } catch (IllegalArgumentException due) {
            x.restore();
        }
        Checks.eq("feed('2')", x.feed('2'), 2);
        Checks.eq("readPlan()", x.readPlan(), 1);
        Checks.eq("clearReason()", x.clearReason(), 2);
    }
}
