/** The boundary cases of branches, texts and the snapshot: promises 25 to 39. */
public final class BranchEdgesTest {
    public static void main(String[] args) {
        fork();
        branchZero();
        forkBeginsWithThePresentPlan();
        select();
        discard();
        merge();
        mergeRefusedCalls();
        mergeKeepsAllOfTheParent();
        mergeUpToTheSteps();
        conflict();
        conflictReasons();
        branch();
        difference();
        step();
        undo();
        dropStep();
        dropStepRefused();
        clearReason();
        feed();
        readPlanCommands();
        readPlanDigits();
        readPlanErrors();
        readPlanOfAllCharacters();
        readPlanRefused();
        save();
        restore();
        restoreLeaves();
        Checks.finish();
    }

    private static void fork() {
        Script.run("Promise 25: at most 6 branches, the lowest number that is free", """
            fork() = 1 fork() = 2 fork() = 3 fork() = 4
            branch(5, 0) = throws.None
            fork() = 5
            fork() = throws.State branch(6, 0) = throws.None
            discard(5) = 0 fork() = 5 fork() = throws.State
            discard(1) = 0 discard(4) = 0 fork() = 1 fork() = 4 fork() = throws.State
            branch(0, 2) = 5
            """);
        Script.run("Promise 25: a merged branch is free, too", """
            fork() = 1 fork() = 2 merge(1) = 0 fork() = 1 branch(0, 2) = 2
            """);
    }

    private static void branchZero() {
        Script.run("Branches: branch 0 always exists, has no parent, and began with an empty plan", """
            branch(0, 0) = -1 select(0) = 0 undo() = throws.State
            addEnvelope(-1, 0) = 0 receive(5) = 5 save() = 1 fork() = 1 select(1) = 0 advance(7) = 0 receive(1) = 1
            discard(0) = throws.State merge(0) = throws.State branch(0, 0) = -1 select(0) = 1 merge(1) = 2
            branch(0, 0) = -1 branch(0, 1) = 4 restore() = 1 branch(0, 0) = -1 discard(0) = throws.State
            undo() = 1 undo() = 0 undo() = throws.State
            total(0) = 0 total(2) = 0 total(5) = 0 total(8) = 0
            """);
    }

    private static void forkBeginsWithThePresentPlan() {
        Script.run("Promise 25: it begins with the plan of the present one, without steps; the present one stays", """
            addEnvelope(90, 2) = 0 addRule(0, 0, 5) = 0 addItem(1, 0, 50, 2) = 0 receive(12) = 7 advance(2) = 1
            fork() = 1 total(0) = 7 select(1) = 0
            total(0) = 7 total(2) = 12 total(4) = 1 total(5) = 2 envelope(0, 0) = 5 envelope(0, 1) = 90 rule(0, 2) = 5
            item(0, 4) = 4 item(0, 5) = 1
            branch(1, 0) = 0 branch(1, 1) = 0 step(0, 0) = throws.Index undo() = throws.State
            receive(3) = 0 fork() = 2 branch(2, 0) = 1 branch(2, 1) = 0 branch(2, 4) = 8 branch(1, 1) = 1
            branch(0, 4) = 5 branch(0, 1) = 5
            select(2) = 1 undo() = throws.State
            """);
        Script.run("Promise 25: a branch with 60 steps has a new branch without steps", """
            60x receive(1) = 1
            fork() = 1 branch(1, 1) = 0 branch(1, 3) = 60 select(1) = 0 receive(1) = 1 total(0) = 61
            """);
    }

    private static void select() {
        Script.run("Promise 26: the previous present branch; the first one is branch 0", """
            select(0) = 0 select(-1) = throws.None select(1) = throws.None select(6) = throws.None
            fork() = 1 fork() = 2 fork() = 3 fork() = 4 fork() = 5
            select(5) = 0 select(5) = 5 select(1) = 5 select(0) = 1 select(6) = throws.None
            discard(3) = 0 select(3) = throws.None select(4) = 0 select(least) = throws.None
            select(greatest) = throws.None select(2) = 4
            """);
        Script.run("Promise 26: all steps are made there", """
            fork() = 1 select(1) = 0 receive(5) = 5 branch(0, 1) = 0 branch(1, 1) = 1 branch(0, 3) = 0
            select(0) = 1 total(0) = 0 receive(2) = 2 branch(0, 1) = 1 branch(1, 3) = 5
            """);
    }

    private static void discard() {
        Script.run("Promise 27: the number of its steps, from none to 60", """
            fork() = 1 discard(1) = 0 discard(1) = throws.None
            fork() = 1 select(1) = 0
            60x receive(1) = 1
            select(0) = 1 discard(1) = 60 branch(0, 3) = 0 branch(0, 1) = 0
            """);
        Script.run("Promise 27: no such branch", """
            fork() = 1
            discard(-1) = throws.None discard(2) = throws.None discard(5) = throws.None discard(6) = throws.None
            discard(least) = throws.None discard(greatest) = throws.None
            """);
        Script.run("Promise 27: branch 0, the present one, or the parent of another one", """
            discard(0) = throws.State
            fork() = 1 discard(0) = throws.State
            select(1) = 0 discard(1) = throws.State discard(0) = throws.State
            fork() = 2 discard(1) = throws.State
            select(0) = 1 discard(1) = throws.State
            select(2) = 0 discard(2) = throws.State discard(1) = throws.State
            select(0) = 2 discard(2) = 0 discard(1) = 0
            """);
    }

    private static void merge() {
        Script.run("Promise 28: a branch without steps", """
            receive(5) = 5 fork() = 1 merge(1) = 0 branch(1, 0) = throws.None branch(0, 1) = 1 total(0) = 5
            conflict(true) = throws.None
            """);
        Script.run("Promise 28: its steps are made on the plan of the parent, and become its steps", """
            addEnvelope(-1, 0) = 0 fork() = 1 select(1) = 0
            addEnvelope(70, 1) = 1 addRule(3, 1, 0) = 0 receive(100) = 30 select(0) = 1
            addEnvelope(50, 0) = 1 receive(1) = 1
            # envelope 1 is the one of the parent now, which the rule fills
            merge(1) = 3 total(8) = 3 envelope(1, 0) = 50 envelope(2, 0) = 0 total(0) = 51 branch(0, 1) = 6
            step(3, 0) = 0 step(3, 1) = 70 step(3, 2) = 1 step(4, 0) = 3 step(4, 1) = 3 step(5, 0) = 9 step(5, 1) = 100
            undo() = 5 total(0) = 1 undo() = 4 undo() = 3 undo() = 2 total(8) = 2 total(0) = 0
            """);
        Script.run("Promise 28: they become its steps with all their arguments, whatever they are", """
            fork() = 1 select(1) = 0
            addEnvelope(5, 1) = 0 addEnvelope(-1, 2) = 1 setCap(0, 6) = 5 setRollover(1, 1) = 2 addRule(4, 1, 8) = 0
            removeRule(0) = 0 addLink(1, 0, 11, 12) = 0 removeLink(0) = 0 addItem(1, 1, 13, 14) = 0 removeItem(0) = 0
            receive(15) = 15 spend(1, 2) = 2 move(-1, 1, 3) = 3 advance(4) = 0
            select(0) = 1 merge(1) = 14
            step(0, 0) = 0 step(0, 1) = 5 step(0, 2) = 1 step(0, 3) = 0 step(0, 4) = 0 step(1, 1) = -1 step(1, 2) = 2
            step(2, 0) = 1 step(2, 2) = 6 step(3, 0) = 2 step(3, 1) = 1 step(3, 2) = 1 step(3, 3) = 0
            step(4, 0) = 3 step(4, 1) = 4 step(4, 2) = 1 step(4, 3) = 8 step(4, 4) = 0 step(5, 0) = 4 step(5, 1) = 0
            step(6, 0) = 5 step(6, 1) = 1 step(6, 2) = 0 step(6, 3) = 11 step(6, 4) = 12 step(7, 0) = 6
            step(8, 0) = 7 step(8, 1) = 1 step(8, 2) = 1 step(8, 3) = 13 step(8, 4) = 14 step(9, 0) = 8
            step(10, 0) = 9 step(10, 1) = 15 step(10, 2) = 0 step(11, 0) = 10 step(11, 1) = 1 step(11, 2) = 2
            step(12, 0) = 11 step(12, 1) = -1 step(12, 2) = 1 step(12, 3) = 3 step(12, 4) = 0
            step(13, 0) = 12 step(13, 1) = 4 step(13, 2) = 0 step(14, 0) = throws.Index
            # with the rule kept nothing of the income comes to the pool, from which the move takes
            dropStep(5) = throws.Unsupported dropStep(12) = 13 dropStep(5) = 12 total(9) = 1 rule(0, 2) = 8
            """);
        Script.run("Promise 28: the parent may be the present one, or not, and need not be branch 0", """
            fork() = 1 select(1) = 0 fork() = 2 select(2) = 1 receive(7) = 7
            select(0) = 2 merge(2) = 1 branch(1, 1) = 1 branch(1, 3) = 7 branch(0, 1) = 0 branch(0, 3) = 0
            branch(1, 2) = 0 merge(1) = 1 total(0) = 7
            """);
    }

    private static void mergeRefusedCalls() {
        Script.run("Promise 28: no such branch; branch 0, the present one, or the parent of another one", """
            merge(0) = throws.State
            fork() = 1
            merge(-1) = throws.None merge(2) = throws.None merge(6) = throws.None merge(least) = throws.None
            merge(greatest) = throws.None merge(0) = throws.State
            select(1) = 0 receive(5) = 5 addEnvelope(-1, 0) = 0 spend(0, 5) = 5
            merge(1) = throws.State fork() = 2 merge(1) = throws.State
            select(0) = 1 merge(1) = throws.State
            conflict(false) = throws.None
            """);
        Script.run("Promise 28: these are checked ahead of steps that would be refused", """
            addEnvelope(-1, 0) = 0 receive(5) = 5 fork() = 1 select(1) = 0 spend(0, 5) = 5 fork() = 2
            select(0) = 1 spend(0, 1) = 1
            merge(1) = throws.State conflict(true) = throws.None
            discard(2) = 0 select(1) = 0 merge(1) = throws.State select(0) = 1
            merge(1) = throws.Unsupported conflict(true) = 4 conflict(false) = 0
            """);
    }

    private static void mergeKeepsAllOfTheParent() {
        Script.run("Promise 28: if a step would be refused, nothing else changes", """
            addEnvelope(-1, 0) = 0 receive(50) = 50 fork() = 1 select(1) = 0
            receive(1) = 1 addEnvelope(-1, 0) = 1 addItem(0, 0, 5, 5) = 0 advance(9) = 0 spend(0, 40) = 40
            select(0) = 1 spend(0, 20) = 20
            merge(1) = throws.Unsupported conflict(false) = 4 conflict(true) = 4
            total(0) = 30 total(5) = 0 total(8) = 1 total(11) = 0 branch(0, 1) = 3 branch(1, 1) = 5 branch(1, 3) = 16
            receive(4) = 4 merge(1) = 5 total(0) = 0 branch(0, 1) = 9
            """);
    }

    private static void mergeUpToTheSteps() {
        Script.run("Promise 28: 59 and 1 make 60 steps", """
            fork() = 1 select(1) = 0 receive(7) = 7 select(0) = 1
            59x receive(1) = 1
            merge(1) = 1 branch(0, 1) = 60 step(59, 1) = 7 total(0) = 66
            """);
        Script.run("Promise 28: none and 60 make 60 steps", """
            fork() = 1 select(1) = 0
            60x receive(1) = 1
            select(0) = 1 merge(1) = 60 branch(0, 1) = 60 total(0) = 60 step(0, 1) = 1 step(59, 1) = 1
            receive(1) = throws.State3
            """);
        Script.run("Promise 28: a branch without steps merges into one with 60", """
            fork() = 1
            60x receive(1) = 1
            merge(1) = 0 branch(0, 1) = 60 total(0) = 60
            """);
    }

    private static void conflict() {
        Script.run("Promise 29: no such call", """
            conflict(true) = throws.None conflict(false) = throws.None
            fork() = 1 select(1) = 0 receive(1) = 1 select(0) = 1 merge(1) = 1 merge(1) = throws.None
            merge(0) = throws.State conflict(true) = throws.None conflict(false) = throws.None
            """);
        Script.run("Promise 29: the first step, the last step, and the latest call", """
            addEnvelope(-1, 0) = 0 receive(9) = 9
            fork() = 1 fork() = 2 select(1) = 0 spend(0, 9) = 9 receive(3) = 3
            select(2) = 1 receive(1) = 1 setCap(0, 5) = -1 removeRule(0) = throws.Index addRule(3, 0, 0) = 0 removeRule(0) = 0
            spend(0, 9) = 9
            select(0) = 2 spend(0, 5) = 5
            merge(1) = throws.Unsupported conflict(false) = 0 conflict(true) = 4
            merge(2) = throws.Unsupported conflict(false) = 4 conflict(true) = 4
            merge(1) = throws.Unsupported conflict(false) = 0 conflict(true) = 4
            """);
    }

    private static void conflictReasons() {
        Script.run("Promise 29: the reason 1, as a part does not exist there", """
            addEnvelope(-1, 0) = 0 addEnvelope(-1, 0) = 1 addRule(3, 0, 0) = 0 addLink(0, 1, 0, 1) = 0 addItem(0, 0, 1, 1) = 0
            fork() = 1 fork() = 2 fork() = 3 fork() = 4
            select(1) = 0 receive(1) = 1 removeRule(0) = 0
            select(2) = 1 removeLink(0) = 0
            select(3) = 2 advance(1) = 0 advance(1) = 0 removeItem(0) = 0
            select(4) = 3 addEnvelope(-1, 0) = 2 setCap(2, 5) = -1
            select(0) = 4 removeRule(0) = 0 removeLink(0) = 0 removeItem(0) = 0
            merge(1) = throws.Unsupported conflict(true) = 1 conflict(false) = 1
            merge(2) = throws.Unsupported conflict(true) = 1 conflict(false) = 0
            merge(3) = throws.Unsupported conflict(true) = 1 conflict(false) = 2
            # an envelope that the branch adds is there
            merge(4) = 2 envelope(2, 1) = 5
            """);
        Script.run("Promise 29: the reason 3, as there are 10 envelopes, 6 rules, 6 links or 8 items", """
            addEnvelope(-1, 0) = 0 addEnvelope(-1, 0) = 1
            fork() = 1 fork() = 2 fork() = 3 fork() = 4
            select(1) = 0 addEnvelope(1, 0) = 2
            select(2) = 1 addRule(3, 1, 0) = 0
            select(3) = 2 receive(4) = 4 addLink(0, 1, 1, 1) = 0
            select(4) = 3 addItem(0, 0, 1, 1) = 0
            select(0) = 4
            addEnvelope(-1, 0) = 2 addEnvelope(-1, 0) = 3 addEnvelope(-1, 0) = 4 addEnvelope(-1, 0) = 5
            addEnvelope(-1, 0) = 6 addEnvelope(-1, 0) = 7 addEnvelope(-1, 0) = 8 addEnvelope(-1, 0) = 9
            addRule(3, 0, 0) = 0 addRule(3, 0, 0) = 1 addRule(3, 0, 0) = 2 addRule(3, 0, 0) = 3 addRule(3, 0, 0) = 4
            addLink(0, 1, 1, 1) = 0 addLink(0, 1, 1, 1) = 1 addLink(0, 1, 1, 1) = 2 addLink(0, 1, 1, 1) = 3
            addLink(0, 1, 1, 1) = 4 addLink(0, 1, 1, 1) = 5
            addItem(0, 0, 1, 1) = 0 addItem(0, 0, 1, 1) = 1 addItem(0, 0, 1, 1) = 2 addItem(0, 0, 1, 1) = 3
            addItem(0, 0, 1, 1) = 4 addItem(0, 0, 1, 1) = 5 addItem(0, 0, 1, 1) = 6 addItem(0, 0, 1, 1) = 7
            merge(1) = throws.Unsupported conflict(true) = 3 conflict(false) = 0
            # there is room for one more rule
            merge(2) = 1 total(9) = 6
            merge(3) = throws.Unsupported conflict(true) = 3 conflict(false) = 1
            merge(4) = throws.Unsupported conflict(true) = 3 conflict(false) = 0
            """);
    }

    private static void branch() {
        Script.run("Promise 30: its parent, -1 if it has none, its steps, the branches whose parent it is", """
            branch(0, 0) = -1 branch(0, 1) = 0 branch(0, 2) = 0
            branch(0, -1) = throws.Argument branch(0, 6) = throws.Argument branch(0, least) = throws.Argument
            branch(0, greatest) = throws.Argument
            branch(1, 0) = throws.None branch(1, 6) = throws.None branch(-1, -1) = throws.None
            fork() = 1 fork() = 2 select(2) = 0 fork() = 3 fork() = 4 select(4) = 2 fork() = 5
            branch(1, 0) = 0 branch(2, 0) = 0 branch(3, 0) = 2 branch(4, 0) = 2 branch(5, 0) = 4
            branch(0, 2) = 2 branch(1, 2) = 0 branch(2, 2) = 2 branch(3, 2) = 0 branch(4, 2) = 1 branch(5, 2) = 0
            discard(3) = 0 branch(2, 2) = 1 discard(1) = 0 branch(0, 2) = 1
            60x receive(1) = 1
            branch(4, 1) = 60 branch(4, 3) = 60 branch(2, 3) = 0
            """);
        Script.run("Promise 30: its pool, the sum of its balances, its day", """
            branch(0, 3) = 0 branch(0, 4) = 0 branch(0, 5) = 0
            addEnvelope(-1, 0) = 0 addEnvelope(-1, 0) = 1 receive(9) = 9 move(-1, 0, 2) = 2 move(-1, 1, 3) = 3
            fork() = 1 select(1) = 0 advance(60) = 0 spend(0, 3) = 1
            branch(0, 3) = 4 branch(0, 4) = 5 branch(0, 5) = 0 branch(1, 3) = 3 branch(1, 4) = 3 branch(1, 5) = 60
            """);
    }

    private static void difference() {
        Script.run("Promise 31: 0 to 9, or -1 for the pool, where an envelope that does not exist counts as 0", """
            difference(0, 0, -2) = throws.Index difference(0, 0, 10) = throws.Index
            difference(0, 0, least) = throws.Index difference(0, 0, greatest) = throws.Index
            difference(0, 0, -1) = 0 difference(0, 0, 0) = 0 difference(0, 0, 9) = 0
            difference(1, 0, 10) = throws.None difference(0, 1, -2) = throws.None difference(-1, 0, 0) = throws.None
            difference(0, 6, 0) = throws.None difference(least, greatest, 0) = throws.None
            fork() = 1
            addEnvelope(-1, 0) = 0 addEnvelope(-1, 0) = 1 addEnvelope(-1, 0) = 2 addEnvelope(-1, 0) = 3
            addEnvelope(-1, 0) = 4 addEnvelope(-1, 0) = 5 addEnvelope(-1, 0) = 6 addEnvelope(-1, 0) = 7
            addEnvelope(-1, 0) = 8 addEnvelope(-1, 0) = 9
            receive(100) = 100 move(-1, 0, 10) = 10 move(-1, 9, 25) = 25
            difference(0, 1, 9) = 25 difference(1, 0, 9) = -25 difference(0, 1, 0) = 10 difference(1, 0, 0) = -10
            difference(0, 1, 8) = 0 difference(0, 1, -1) = 65 difference(1, 0, -1) = -65 difference(0, 0, 9) = 0
            difference(0, 1, 10) = throws.Index difference(0, 1, -2) = throws.Index
            undo() = 12 undo() = 11 undo() = 10 undo() = 9
            difference(0, 1, 9) = 0 difference(1, 0, 9) = 0 difference(0, 1, 0) = 0
            """);
    }

    private static void step() {
        Script.run("Promise 32: the kinds 0 to 12 and the arguments, 0 for those that it does not have", """
            addEnvelope(-1, 2) = 0 setCap(0, 9000000) = -1 setRollover(0, 1) = 2 addEnvelope(0, 0) = 1
            addRule(4, 1, 99) = 0 removeRule(0) = 0 addLink(1, 0, 9000000, 100) = 0 removeLink(0) = 0
            addItem(1, 1, 1000000, 60) = 0 removeItem(0) = 0 receive(1000000) = 1000000 spend(1, 1) = 1 move(-1, 0, 2) = 2
            advance(60) = 0
            step(0, 0) = 0 step(0, 1) = -1 step(0, 2) = 2 step(0, 3) = 0 step(0, 4) = 0
            step(1, 0) = 1 step(1, 1) = 0 step(1, 2) = 9000000 step(1, 3) = 0 step(1, 4) = 0
            step(2, 0) = 2 step(2, 1) = 0 step(2, 2) = 1 step(2, 3) = 0 step(2, 4) = 0
            step(4, 0) = 3 step(4, 1) = 4 step(4, 2) = 1 step(4, 3) = 99 step(4, 4) = 0
            step(5, 0) = 4 step(5, 1) = 0 step(5, 2) = 0 step(5, 3) = 0 step(5, 4) = 0
            step(6, 0) = 5 step(6, 1) = 1 step(6, 2) = 0 step(6, 3) = 9000000 step(6, 4) = 100
            step(7, 0) = 6 step(7, 1) = 0 step(7, 2) = 0 step(7, 3) = 0 step(7, 4) = 0
            step(8, 0) = 7 step(8, 1) = 1 step(8, 2) = 1 step(8, 3) = 1000000 step(8, 4) = 60
            step(9, 0) = 8 step(9, 1) = 0 step(9, 2) = 0 step(9, 3) = 0 step(9, 4) = 0
            step(10, 0) = 9 step(10, 1) = 1000000 step(10, 2) = 0 step(10, 3) = 0 step(10, 4) = 0
            step(11, 0) = 10 step(11, 1) = 1 step(11, 2) = 1 step(11, 3) = 0 step(11, 4) = 0
            step(12, 0) = 11 step(12, 1) = -1 step(12, 2) = 0 step(12, 3) = 2 step(12, 4) = 0
            step(13, 0) = 12 step(13, 1) = 60 step(13, 2) = 0 step(13, 3) = 0 step(13, 4) = 0
            step(14, 0) = throws.Index
            """);
        Script.run("Promise 32: from no step to 60, and only successful calls are steps", """
            step(0, 0) = throws.Index receive(0) = throws.Argument spend(0, 5) = throws.Index step(0, 0) = throws.Index
            receive(8) = 8 step(0, 1) = 8 step(1, 0) = throws.Index
            total(0) = 8 split(-1, 5) = 5 fork() = 1 save() = 2 step(1, 0) = throws.Index
            59x advance(1) = 0
            step(59, 0) = 12 step(60, 0) = throws.Index advance(1) = throws.State3 step(60, 0) = throws.Index
            undo() = 59 step(58, 0) = 12 step(59, 0) = throws.Index
            """);
        Script.run("Promise 32: a step that does not take an argument has none of an earlier one", """
            addEnvelope(-1, 0) = 0 addItem(1, 0, 33, 44) = 0 undo() = 1 receive(5) = 5
            step(1, 0) = 9 step(1, 1) = 5 step(1, 2) = 0 step(1, 3) = 0 step(1, 4) = 0
            """);
    }

    private static void undo() {
        Script.run("Promise 33: until no step remains", """
            undo() = throws.State receive(5) = 5 advance(1) = 0
            undo() = 1 total(5) = 0 total(0) = 5 undo() = 0 total(0) = 0 total(2) = 0 undo() = throws.State
            receive(6) = 6 step(0, 1) = 6 branch(0, 1) = 1
            """);
        Script.run("Promise 33: of 60 steps", """
            60x receive(1) = 1
            receive(1) = throws.State3 undo() = 59 receive(2) = 2 branch(0, 1) = 60 total(0) = 61 undo() = 59 total(0) = 59
            """);
        Script.run("Promise 33: what a step removed is back with its number", """
            addEnvelope(-1, 0) = 0 addEnvelope(-1, 0) = 1 addRule(0, 0, 10) = 0 addRule(0, 1, 20) = 1 addRule(2, 0, 30) = 2
            removeRule(1) = 2 rule(1, 2) = 30 undo() = 5 rule(1, 2) = 20 rule(2, 2) = 30 total(9) = 3
            addItem(1, 0, 77, 3) = 0 addItem(0, 0, 5, 4) = 1 advance(3) = 1 removeItem(0) = 1 undo() = 8
            item(0, 2) = 77 item(0, 4) = 6 item(0, 5) = 1 item(1, 2) = 5
            addLink(0, 1, 2, 50) = 0 receive(6) = 0 link(0, 4) = 2 removeLink(0) = 0 undo() = 10
            link(0, 2) = 2 link(0, 4) = 2 envelope(1, 0) = 2
            """);
    }

    private static void dropStep() {
        Script.run("Promise 34: no such step, or the last one", """
            dropStep(0) = throws.Index receive(5) = 5 dropStep(0) = throws.Index dropStep(1) = throws.Index
            dropStep(-1) = throws.Index
            receive(6) = 6 dropStep(1) = throws.Index dropStep(2) = throws.Index
            dropStep(0) = 1 total(0) = 6 step(0, 1) = 6 step(1, 0) = throws.Index dropStep(0) = throws.Index
            """);
        Script.run("Promise 34: the first one of 60, and the last but one", """
            receive(1000) = 1000 receive(100) = 100
            56x receive(1) = 1
            receive(10) = 10 advance(3) = 0
            branch(0, 1) = 60 dropStep(59) = throws.Index dropStep(60) = throws.Index
            dropStep(58) = 59 total(0) = 1156 step(58, 0) = 12 dropStep(58) = throws.Index
            dropStep(0) = 58 total(0) = 156 step(0, 1) = 100 step(57, 0) = 12 total(5) = 3 receive(2) = 2
            """);
        Script.run("Promise 34: the plan becomes what the other steps make of the plan from which it began", """
            addEnvelope(-1, 0) = 0 receive(10) = 10 fork() = 1 select(1) = 0
            addRule(2, 0, 100) = 0 receive(5) = 0 receive(7) = 0
            dropStep(0) = 2 total(0) = 22 envelope(0, 0) = 0 total(9) = 0 branch(0, 3) = 10 branch(0, 1) = 2
            dropStep(0) = 1 total(0) = 17 undo() = 0 total(0) = 10 dropStep(0) = throws.Index
            """);
    }

    private static void dropStepRefused() {
        Script.run("Promise 34: one of the steps behind it would be refused then", """
            addEnvelope(-1, 0) = 0 receive(10) = 10 receive(1) = 1 spend(0, 11) = 11 receive(3) = 3
            dropStep(0) = throws.Unsupported dropStep(1) = throws.Unsupported dropStep(2) = throws.Unsupported
            dropStep(3) = 4 total(0) = 14 step(3, 0) = 9
            dropStep(2) = 3 dropStep(1) = 2 total(0) = 3
            """);
        Script.run("Promise 34: also if it is the last one that would be refused", """
            addEnvelope(-1, 0) = 0 receive(10) = 10 advance(1) = 0 spend(0, 10) = 10
            dropStep(1) = throws.Unsupported dropStep(2) = 3 total(5) = 0
            conflict(true) = throws.None
            """);
        Script.run("Promise 34: refused for the parts that are there then, or for as many as possible", """
            addEnvelope(-1, 0) = 0 addItem(0, 0, 5, 5) = 0 addItem(0, 0, 6, 6) = 1 removeItem(1) = 1
            dropStep(1) = throws.Unsupported dropStep(2) = throws.Unsupported
            addRule(0, 0, 1) = 0 removeRule(0) = 0 addRule(0, 0, 1) = 0 addRule(0, 0, 1) = 1 addRule(0, 0, 1) = 2
            addRule(0, 0, 1) = 3 addRule(0, 0, 1) = 4 addRule(0, 0, 1) = 5
            # without the removal the sixth of the later rules would be the seventh one
            dropStep(5) = throws.Unsupported undo() = 11 dropStep(5) = 10 total(9) = 6
            """);
    }

    private static void clearReason() {
        Script.run("Promise 35: the reason, or 0 if none is kept", """
            clearReason() = 0
            receive(0) = throws.Argument clearReason() = 2 clearReason() = 0
            spend(0, 0) = throws.Index clearReason() = 1 clearReason() = 0
            addEnvelope(-1, 0) = 0 spend(0, 5) = throws.State4 clearReason() = 4 clearReason() = 0
            59x receive(1) = 1
            receive(1) = throws.State3 clearReason() = 3 clearReason() = 0
            """);
        Script.run("Promise 35: of readPlan, too", """
            input(r0) = 2 readPlan() = 0 clearReason() = 2 clearReason() = 0
            """);
    }

    private static void feed() {
        Script.run("Promise 36: any character, up to 60 of them", """
            feed(0) = 1 feed(65535) = 2 feed(' ') = 3 feed(';') = 4 feed(255) = 5 feed(256) = 6 feed(55296) = 7
            """ + feeds(8, 59) + """
            feed('r') = 60 feed('n') = throws.State feed(0) = throws.State
            readPlan() = -100 feed('n') = 1
            """);
    }

    /** Calls of feed that come to these lengths. */
    private static String feeds(int first, int last) {
        StringBuilder calls = new StringBuilder();
        for (int length = first; length <= last; length++) {
            calls.append("feed('n') = ").append(length).append("\n");
        }
        return calls.toString();
    }

    private static void readPlanCommands() {
        Script.run("Promise 37: each command, with the steps that it makes", """
            input(n;n;r900;s1:30;m0>1:2) = 21 readPlan() = 4 clearReason() = 4
            branch(0, 1) = 4 total(0) = 870 envelope(0, 1) = -1 envelope(0, 2) = 0
            input(mp>0:500;m0>1:20;m1>p:7;d60) = 27 readPlan() = 4
            envelope(0, 0) = 480 envelope(1, 0) = 13 total(0) = 377 total(5) = 60 clearReason() = 0
            step(0, 0) = 0 step(0, 1) = -1 step(0, 2) = 0 step(0, 3) = 0 step(0, 4) = 0
            step(2, 0) = 9 step(2, 1) = 900 step(2, 2) = 0 step(2, 3) = 0 step(2, 4) = 0
            step(3, 0) = 10 step(3, 1) = 1 step(3, 2) = 30 step(3, 3) = 0 step(3, 4) = 0
            step(4, 0) = 11 step(4, 1) = -1 step(4, 2) = 0 step(4, 3) = 500 step(4, 4) = 0
            step(6, 0) = 11 step(6, 1) = 1 step(6, 2) = -1 step(6, 3) = 7 step(6, 4) = 0
            step(7, 0) = 12 step(7, 1) = 60 step(7, 2) = 0 step(7, 3) = 0 step(7, 4) = 0
            step(8, 0) = throws.Index readPlan() = -100
            """);
        Script.run("Promise 37: the digits 0 and 9 as places", """
            input(n;n;n;n;n;n;n;n;n;n;r9;mp>9:9;m9>0:5;s9:4;s0:5) = 46 readPlan() = 15
            envelope(9, 4) = 4 envelope(0, 4) = 5 total(0) = 0 clearReason() = 0
            input(s9:1) = 4 readPlan() = 0 clearReason() = 4
            """);
        Script.run("Promise 37: on the present branch", """
            fork() = 1 select(1) = 0 input(n;r5) = 4 readPlan() = 2 branch(1, 1) = 2 branch(0, 1) = 0
            """);
    }

    private static void readPlanDigits() {
        Script.run("Promise 37: amounts and numbers are 1 to 7 digits", """
            input(r1) = 2 readPlan() = 1 input(r1000000) = 8 readPlan() = 1 input(r0000001) = 8 readPlan() = 1
            input(r) = 1 readPlan() = -101 input(r00000001) = 9 readPlan() = -108 input(r10000000) = 9 readPlan() = -108
            input(d1) = 2 readPlan() = 1 input(d0000060) = 8 readPlan() = 1 input(d00000060) = 9 readPlan() = -108
            input(n;s0:1000000) = 12 readPlan() = 2 input(s0:00000001) = 11 readPlan() = -110
            input(mp>0:0000001) = 12 readPlan() = 1 input(mp>0:00000001) = 13 readPlan() = -112
            total(0) = 1 total(5) = 61 envelope(0, 0) = 1 clearReason() = 0
            """);
        Script.run("Promise 37: a number of 7 digits may be out of range", """
            input(r1000001) = 8 readPlan() = 0 clearReason() = 2 input(r9999999) = 8 readPlan() = 0 clearReason() = 2
            input(r0000000) = 8 readPlan() = 0 clearReason() = 2 input(d0) = 2 readPlan() = 0 clearReason() = 2
            input(d61) = 3 readPlan() = 0 clearReason() = 2 input(n;s0:0) = 6 readPlan() = 1 clearReason() = 2
            input(mp>0:0) = 6 readPlan() = 0 clearReason() = 2 input(mp>p:1) = 6 readPlan() = 0 clearReason() = 2
            """);
    }

    /** A text, and the position of its error. */
    private static String error(String text, int position) {
        StringBuilder calls = new StringBuilder();
        for (char sign : text.toCharArray()) {
            calls.append("feed(").append((int) sign).append(") = ").append(calls.toString().split("\n", -1).length)
                .append("\n");
        }
        return calls + "readPlan() = " + (-100 - position) + " total(0) = 50 branch(0, 1) = 3 clearReason() = 0\n"
            + "feed('n') = 1 readPlan() = 1 undo() = 3\n";
    }

    private static void readPlanErrors() {
        String start = "addEnvelope(-1, 0) = 0 addEnvelope(-1, 0) = 1 receive(50) = 50\n";
        String[] tooEarly = {"", "r", "s", "s0", "s0:", "m", "m0", "mp", "m0>", "mp>", "m0>p", "mp>0", "m0>p:", "mp>0:",
            "d", "n;", "r5;", "s0:5;", "m0>p:5;", "d5;", "n;r5;s0:7;m0>1:", "r5;n;d"};
        for (String text : tooEarly) {
            Script.run("Promise 37: its length if it ends too early: " + text, start + error(text, text.length()));
        }
        // each text goes wrong with its last character; others that come then do not matter
        String[] wrong = {";", "5", "p", ":", ">", " ", "N", "a", "m1>1:>", "nn", "n5", "n:", "n ", "n;;", "n;5", "n;p",
            "n,", "r;", "rn", "rp", "r-", "r+", "r ", "r.", "r/", "r:", "r5n", "r5:", "r5 ", "r5.", "sp", "s:", "s;",
            "s-", "s/", "s00", "s0;", "s0>", "s0n", "s0:;", "s0:p", "s0:-", "s0:n", "s0:5:", "s0:5>", "m>", "m:", "m;",
            "mm", "m/", "m00", "m0:", "m0;", "m0p", "mpp", "mp0", "mp:", "m0>>", "m0>:", "m0>;", "m0>/", "m0>00", "m0>pp",
            "m0>p>", "m0>p;", "m0>1-", "m0>p:;", "m0>p:p", "m0>p:5>", "dn", "dp", "d;", "d-", "d5:", "d5d"};
        for (String text : wrong) {
            Script.run("Promise 37: the first character that cannot continue such a text: " + text,
                start + error(text, text.length() - 1) + error(text + "n;r5x", text.length() - 1));
        }
        char[] strange = {0, 10, 127, 128, 255, 256, 'n' + 256, '5' + 256, 65535, 0x0660, 0xff15};
        for (char sign : strange) {
            Script.run("Promise 37: no other character continues a text: " + (int) sign,
                start + error("" + sign, 0) + error("n" + sign, 1) + error("n;" + sign, 2) + error("r5" + sign, 2)
                + error("s" + sign, 1) + error("mp>" + sign, 3));
        }
    }

    private static void readPlanOfAllCharacters() {
        Script.run("Promise 37: 60 characters", """
            input(n;r1;r1;r1;r1;r1;r1;r1;r1;r1;r1;r1;r1;r1;r1;r1;r1;r1;d000060) = 60 feed('1') = throws.State
            readPlan() = 19 total(0) = 17 total(5) = 60 readPlan() = -100
            input(n;r1;r1;r1;r1;r1;r1;r1;r1;r1;r1;r1;r1;r1;r1;r1;r1;r1;r1;r1;r) = 60 readPlan() = -160
            input(n;r1;r1;r1;r1;r1;r1;r1;r1;r1;r1;r1;r1;r1;r1;r1;r1;r1;r1;r1;x) = 60 readPlan() = -159
            input(n;r1;r1;r1;r1;r1;r1;r1;r1;r1;r1;r1;r1;r1;r1;r1;r1;r1;r1;r1;n) = 60 readPlan() = 21
            total(0) = 36 branch(0, 1) = 40
            """);
        Script.run("Promise 37: 30 commands, as many as can stand there", """
            input(n;n;n;n;n;n;n;n;n;n;n;n;n;n;n;n;n;n;n;n;n;n;n;n;n;n;n;n;n;n) = 59 readPlan() = 10
            clearReason() = 3 branch(0, 1) = 10 total(8) = 10
            input(n;n;n;n;n;n;n;n;n;n;n;n;n;n;n;n;n;n;n;n;n;n;n;n;n;n;n;n;n;n;) = 60 readPlan() = -160
            """);
    }

    private static void readPlanRefused() {
        Script.run("Promise 37: the first command that is refused ends it, and its reason is kept", """
            input(s0:5;n) = 6 readPlan() = 0 clearReason() = 1 total(8) = 0
            input(n;r5;s0:6;n) = 11 readPlan() = 2 clearReason() = 4 total(8) = 1 total(0) = 5
            input(r7;m0>1:1;r7) = 12 readPlan() = 1 clearReason() = 1 total(0) = 12
            input(r7;m0>0:1;r7) = 12 readPlan() = 1 clearReason() = 2 total(0) = 19
            input(d61;d1) = 6 readPlan() = 0 clearReason() = 2 total(5) = 0
            """);
        Script.run("Promise 37: a reason that was kept before stays if no command is refused, and with an error", """
            receive(0) = throws.Argument input(n) = 1 readPlan() = 1 input(x) = 1 readPlan() = -100 clearReason() = 2
            """);
        Script.run("Promise 37: the 60th step, and the 61st", """
            58x receive(1) = 1
            input(n;n;n) = 5 readPlan() = 2 clearReason() = 3 branch(0, 1) = 60
            input(n) = 1 readPlan() = 0 clearReason() = 3
            # a number out of range and an envelope that is not there are checked ahead of the 60 steps, money is not
            input(r0) = 2 readPlan() = 0 clearReason() = 2 input(s2:1) = 4 readPlan() = 0 clearReason() = 1
            input(s0:99) = 5 readPlan() = 0 clearReason() = 3
            """);
        Script.run("Promise 37: the input is empty afterwards, in each case", """
            input(n) = 1 readPlan() = 1 feed('n') = 1 readPlan() = 1
            input(x) = 1 readPlan() = -100 feed('n') = 1 readPlan() = 1
            input(r0;n) = 4 readPlan() = 0 feed('n') = 1 readPlan() = 1 readPlan() = -100
            """);
    }

    private static void save() {
        Script.run("Promise 38: the number of branches, from 1 to 6", """
            save() = 1 fork() = 1 save() = 2 fork() = 2 fork() = 3 fork() = 4 fork() = 5 save() = 6
            discard(2) = 0 discard(3) = 0 save() = 4
            """);
        Script.run("Promise 38: in place of what was saved before", """
            receive(5) = 5 fork() = 1 select(1) = 0 save() = 2
            select(0) = 1 discard(1) = 0 receive(6) = 6 save() = 1
            receive(7) = 7 fork() = 1 restore() = 1 total(0) = 11 branch(1, 0) = throws.None select(0) = 0
            """);
    }

    private static void restore() {
        Script.run("Promise 39: nothing was saved", """
            restore() = throws.State fork() = 1 select(1) = 0 receive(5) = 5 restore() = throws.State
            save() = 2 restore() = 2 total(0) = 5 select(1) = 1
            """);
        Script.run("Promise 39: what was saved last stays saved", """
            addEnvelope(9, 1) = 0 save() = 1
            receive(5) = 5 restore() = 1 total(0) = 0 branch(0, 1) = 1
            receive(6) = 6 fork() = 1 restore() = 1 total(0) = 0 branch(1, 0) = throws.None
            setCap(0, 8) = 9 undo() = 1 undo() = 0 restore() = 1 envelope(0, 1) = 9 step(0, 1) = 9 undo() = 0
            """);
        Script.run("Promise 39: all branches, their parents, steps and beginnings, and which one is the present one", """
            receive(1) = 1 fork() = 1 select(1) = 0 receive(2) = 2 fork() = 2 select(2) = 1 receive(4) = 4 advance(1) = 0
            select(1) = 2 save() = 3
            select(0) = 1 discard(2) = 2 merge(1) = 1 undo() = 1 undo() = 0 fork() = 1 fork() = 2 fork() = 3
            select(2) = 0 receive(9) = 9 fork() = 4
            restore() = 3
            branch(3, 0) = throws.None branch(4, 0) = throws.None
            branch(0, 1) = 1 branch(1, 1) = 1 branch(2, 1) = 2 branch(1, 0) = 0 branch(2, 0) = 1 branch(0, 2) = 1
            branch(1, 2) = 1 branch(2, 2) = 0 branch(0, 3) = 1 branch(1, 3) = 3 branch(2, 3) = 7 branch(2, 5) = 1
            step(0, 1) = 2 undo() = 0 total(0) = 1 select(2) = 1 step(0, 1) = 4 step(1, 0) = 12
            undo() = 1 undo() = 0 total(0) = 3 undo() = throws.State fork() = 3
            """);
        Script.run("Promise 39: a branch with 60 steps", """
            30x receive(1) = 1
            30x receive(2) = 2
            save() = 1 dropStep(0) = 59 undo() = 58 advance(2) = 0 advance(3) = 0
            step(29, 1) = 2 step(57, 0) = 9 step(58, 0) = 12 step(59, 0) = 12 step(59, 1) = 3
            restore() = 1 branch(0, 1) = 60 total(0) = 90 total(5) = 0
            step(0, 1) = 1 step(29, 1) = 1 step(30, 1) = 2 step(58, 0) = 9 step(58, 1) = 2 step(59, 0) = 9 step(59, 1) = 2
            receive(1) = throws.State3 undo() = 59
            """);
        Script.run("Promise 39: the arguments of the steps of all branches", """
            addEnvelope(5, 1) = 0 addEnvelope(-1, 2) = 1 addLink(1, 0, 11, 12) = 0 addItem(1, 1, 13, 14) = 0
            fork() = 1 select(1) = 0 addItem(1, 0, 15, 16) = 1 addLink(0, 1, 17, 18) = 1 save() = 2
            undo() = 1 undo() = 0 receive(1) = 1 advance(1) = 0 receive(2) = 2 select(0) = 1
            undo() = 3 undo() = 2 receive(3) = 3 advance(4) = 0 receive(5) = 5
            restore() = 2
            step(0, 0) = 7 step(0, 1) = 1 step(0, 2) = 0 step(0, 3) = 15 step(0, 4) = 16
            step(1, 0) = 5 step(1, 1) = 0 step(1, 2) = 1 step(1, 3) = 17 step(1, 4) = 18 step(2, 0) = throws.Index
            select(0) = 1
            step(0, 0) = 0 step(0, 1) = 5 step(0, 2) = 1 step(2, 0) = 5 step(2, 1) = 1 step(2, 3) = 11 step(2, 4) = 12
            step(3, 0) = 7 step(3, 2) = 1 step(3, 3) = 13 step(3, 4) = 14 step(4, 0) = throws.Index
            """);
    }

    private static void restoreLeaves() {
        Script.run("Promise 39: the input, the kept reason and the conflict are no part of it", """
            addEnvelope(-1, 0) = 0 receive(5) = 5 fork() = 1 select(1) = 0 spend(0, 5) = 5 select(0) = 1
            input(r) = 1 save() = 2 spend(0, 3) = 3 merge(1) = throws.Unsupported receive(0) = throws.Argument
            feed('8') = 2 restore() = 2 clearReason() = 2 conflict(true) = 4 conflict(false) = 0
            readPlan() = 1 total(0) = 13 save() = 2 restore() = 2 conflict(true) = 4
            """);
        Script.run("Promise 39: what is done behind restore does not change what is saved", """
            receive(5) = 5 fork() = 1 save() = 2 restore() = 2 receive(6) = 6 select(1) = 0 receive(7) = 7
            select(0) = 1 merge(1) = 1 total(0) = 18 restore() = 2 total(0) = 5 branch(1, 3) = 5 branch(1, 1) = 0
            """);
    }
}
