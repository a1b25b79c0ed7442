/** Each sentence of "In doubt", one after the other. */
public final class InDoubtTest {
    public static void main(String[] args) {
        aboveTheCap();
        centsOfShares();
        settlingFollows();
        missedAndDue();
        aheadOfRollingOver();
        halfThatIsReleased();
        mergingCounts();
        planFromWhichItBegan();
        argumentsStay();
        conflictStays();
        zerosAndNothing();
        Checks.finish();
    }

    private static final String ABOVE = """
        addEnvelope(100, 0) = 0 addEnvelope(-1, 0) = 1 receive(500) = 500 move(-1, 0, 100) = 100 move(-1, 1, 50) = 50
        setCap(0, 60) = 100
        """;

    private static void aboveTheCap() {
        Script.run("An envelope whose balance is above its cap takes nothing of what is put into it by rules, and loses nothing",
            ABOVE + """
            addRule(0, 0, 5) = 0 addRule(1, 0, 10) = 1 addRule(2, 0, 10) = 2 addRule(3, 0, 0) = 3 addRule(4, 0, 1) = 4
            receive(80) = 80 envelope(0, 0) = 100 total(0) = 430 split(0, 1000000) = 0 split(-1, 1000000) = 1000000
            """);
        Script.run("An envelope whose balance is above its cap takes nothing of a move, and loses nothing", ABOVE + """
            move(-1, 0, 1) = 0 move(1, 0, 50) = 0 envelope(0, 0) = 100 envelope(1, 0) = 50 total(0) = 350
            """);
        Script.run("An envelope whose balance is above its cap takes nothing of a link, and loses nothing", ABOVE + """
            addLink(1, 0, 0, 100) = 0 receive(1) = 1 envelope(0, 0) = 100 envelope(1, 0) = 50 link(0, 4) = 0
            """);
        Script.run("An envelope whose balance is above its cap: its links pass on as told", ABOVE + """
            addLink(0, 1, 70, 50) = 0 receive(1) = 1 envelope(0, 0) = 85 envelope(1, 0) = 65 link(0, 4) = 15
            """);
        Script.run("An envelope whose balance is above its cap: nothing fits into it", ABOVE + """
            envelope(0, 3) = 0 setCap(0, 99) = 60 envelope(0, 3) = 0 setCap(0, 100) = 99 envelope(0, 3) = 0
            setCap(0, 101) = 100 envelope(0, 3) = 1
            """);
        Script.run("An envelope whose balance is above its cap is spent from, moved from and rolled over as it is", ABOVE + """
            spend(0, 10) = 0 move(0, -1, 10) = 10 envelope(0, 0) = 80 setRollover(0, 2) = 0 advance(30) = 0
            envelope(0, 0) = 40 envelope(0, 3) = 20
            """);
    }

    private static void centsOfShares() {
        Script.run("A rule of kind 4 gets its cent also if its envelope is full", """
            addEnvelope(0, 0) = 0 addEnvelope(-1, 0) = 1 addEnvelope(-1, 0) = 2
            addRule(4, 0, 1) = 0 addRule(4, 1, 1) = 1 addRule(4, 2, 1) = 2
            receive(1) = 1 envelope(1, 0) = 0
            receive(4) = 2 envelope(0, 0) = 0 envelope(1, 0) = 1 envelope(2, 0) = 1
            receive(5) = 2 envelope(1, 0) = 3 envelope(2, 0) = 2
            """);
        Script.run("A rule of kind 4 gets its cent also if its envelope is above its cap", """
            addEnvelope(-1, 0) = 0 addEnvelope(-1, 0) = 1 receive(9) = 9 move(-1, 0, 9) = 9 setCap(0, 5) = -1
            addRule(4, 0, 1) = 0 addRule(4, 1, 1) = 1
            receive(7) = 4 envelope(0, 0) = 9 envelope(1, 0) = 3
            """);
        Script.run("Each of them is put by itself, also into the same envelope", """
            addEnvelope(10, 0) = 0 addRule(4, 0, 1) = 0 addRule(4, 0, 1) = 1 addRule(4, 0, 1) = 2
            # 3, 3 and 2 fit, and then 3, 3 and 3, of which 1 fits
            receive(8) = 0 envelope(0, 0) = 8 undo() = 4
            receive(10) = 0 envelope(0, 0) = 10 undo() = 4
            receive(11) = 1 envelope(0, 0) = 10 receive(2) = 2 envelope(0, 0) = 10
            """);
        Script.run("Each of them is put by itself: one behind the full one fits", """
            addEnvelope(5, 0) = 0 addEnvelope(-1, 0) = 1 addRule(4, 0, 2) = 0 addRule(4, 1, 1) = 1 addRule(4, 0, 1) = 2
            # 8, 4 and 4
            receive(16) = 7 envelope(0, 0) = 5 envelope(1, 0) = 4
            # 1, 0 and 0, and two cents
            receive(3) = 2 envelope(0, 0) = 5 envelope(1, 0) = 5
            """);
    }

    private static final String READY = """
        addEnvelope(-1, 0) = 0 addEnvelope(-1, 0) = 1 addEnvelope(0, 0) = 2 receive(500) = 500 move(-1, 0, 100) = 100
        addLink(0, 1, 0, 50) = 0
        """;

    private static void settlingFollows() {
        Script.run("Settling follows a move of 0, too", READY + """
            move(0, 2, 1) = 0 envelope(0, 0) = 50 envelope(1, 0) = 50 link(0, 4) = 50
            move(-1, 2, 5) = 0 envelope(0, 0) = 25 envelope(1, 0) = 75
            """);
        String[] steps = {"addEnvelope(5, 0) = 3", "setCap(0, 5) = -1", "setRollover(0, 1) = 0", "addRule(0, 0, 5) = 0",
            "addRule(0, 0, 5) = 0 removeRule(0) = 0", "addLink(1, 0, 5, 50) = 1",
            "addLink(1, 0, 5, 50) = 1 removeLink(1) = 1", "addItem(0, 0, 5, 5) = 0",
            "addItem(0, 0, 5, 5) = 0 removeItem(0) = 0"};
        for (String step : steps) {
            Script.run("Settling follows no step of the kinds 0 to 8: " + step, READY + step + """
                 envelope(0, 0) = 100 envelope(1, 0) = 0 total(6) = 0
                """);
        }
        String[] others = {"receive(1) = 1", "spend(1, 1) = 1", "move(-1, 1, 1) = 1"};
        for (String step : others) {
            Script.run("Settling follows each step of the kinds 9 to 11: " + step, READY + step + """
                 envelope(0, 0) = 50 link(0, 4) = 50 total(6) = 50
                """);
        }
        Script.run("With kind 12, it follows as described for days", READY + """
            advance(29) = 0 total(6) = 0 advance(1) = 0 total(6) = 50
            """);
    }

    private static void missedAndDue() {
        Script.run("An item that is missed is due next one period later all the same", """
            addEnvelope(-1, 0) = 0 addItem(1, 0, 10, 4) = 0 addItem(1, 0, 10, 60) = 1
            advance(3) = 0 item(0, 4) = 4 advance(1) = 1 item(0, 4) = 8 item(0, 5) = 1
            receive(10) = 10 advance(3) = 0 total(3) = 0 advance(1) = 0 total(3) = 10 item(0, 4) = 12
            advance(4) = 1 item(0, 4) = 16 removeItem(0) = 1
            advance(48) = 1 item(0, 4) = 120 item(0, 5) = 1
            """);
    }

    private static void aheadOfRollingOver() {
        Script.run("Items are carried out ahead of rolling over on the same day: an income is released", """
            addEnvelope(-1, 1) = 0 addRule(0, 0, 40) = 0 addItem(0, 0, 50, 30) = 0
            advance(30) = 0 envelope(0, 0) = 0 total(7) = 40 total(0) = 50
            """);
        Script.run("Items are carried out ahead of rolling over on the same day: an expense meets the balance", """
            addEnvelope(-1, 1) = 0 addEnvelope(-1, 0) = 1 receive(50) = 50 move(-1, 0, 50) = 50
            addItem(1, 0, 20, 30) = 0 addItem(1, 1, 30, 30) = 1
            # the other one would need what is released only then
            advance(30) = 1 envelope(0, 4) = 20 total(7) = 30 total(0) = 30 item(1, 5) = 1
            """);
    }

    private static void halfThatIsReleased() {
        Script.run("The half that is released is rounded down, not what stays", """
            addEnvelope(-1, 2) = 0 receive(20) = 20 move(-1, 0, 7) = 7
            advance(30) = 0 envelope(0, 0) = 4 total(7) = 3
            advance(30) = 0 envelope(0, 0) = 2 total(7) = 5
            advance(30) = 0 envelope(0, 0) = 1 total(7) = 6
            advance(30) = 0 envelope(0, 0) = 1 total(7) = 6 total(0) = 19
            """);
    }

    private static void mergingCounts() {
        Script.run("Merging counts the steps of the parent: one that would be its 61st is refused with reason 3", """
            addEnvelope(-1, 0) = 0 fork() = 1 select(1) = 0 receive(1) = 1 receive(2) = 2 spend(0, 3) = 3 select(0) = 1
            57x receive(1) = 1
            branch(0, 1) = 58 merge(1) = throws.Unsupported conflict(true) = 3 conflict(false) = 2 branch(0, 1) = 58
            undo() = 57 merge(1) = 3 branch(0, 1) = 60 step(59, 0) = 10
            """);
        Script.run("Merging counts the steps of the parent: also the first step of the branch may be the 61st", """
            addEnvelope(-1, 0) = 0 fork() = 1 select(1) = 0 receive(1) = 1 select(0) = 1
            59x receive(1) = 1
            merge(1) = throws.Unsupported conflict(true) = 3 conflict(false) = 0 branch(0, 1) = 60 branch(1, 1) = 1
            """);
        Script.run("Merging counts the steps of the parent: what is not there comes ahead of them, and the money behind", """
            addEnvelope(-1, 0) = 0 receive(5) = 5 addRule(0, 0, 1) = 0 fork() = 1 fork() = 2
            select(1) = 0 removeRule(0) = 0 select(2) = 1 spend(0, 5) = 5 select(0) = 2 removeRule(0) = 0 spend(0, 5) = 5
            55x advance(1) = 0
            branch(0, 1) = 60 merge(1) = throws.Unsupported conflict(true) = 1
            merge(2) = throws.Unsupported conflict(true) = 3
            undo() = 59 merge(2) = throws.Unsupported conflict(true) = 4
            """);
        Script.run("Merging counts the steps of the parent, not those of the branch or of the present one", """
            fork() = 1 select(1) = 0 fork() = 2 select(2) = 1 receive(1) = 1 select(0) = 2
            60x receive(1) = 1
            merge(2) = 1 branch(1, 1) = 1 merge(1) = throws.Unsupported conflict(true) = 3
            """);
    }

    private static void planFromWhichItBegan() {
        Script.run("A branch keeps the plan from which it began, whatever becomes of its parent: undone and dropped steps", """
            addEnvelope(-1, 0) = 0 receive(5) = 5 receive(6) = 6 fork() = 1 select(1) = 0 receive(7) = 7 receive(8) = 8
            select(0) = 1 dropStep(1) = 2 undo() = 1 undo() = 0 branch(1, 3) = 26
            select(1) = 0 dropStep(0) = 1 total(0) = 19 total(8) = 1 undo() = 0 total(0) = 11 undo() = throws.State
            """);
        Script.run("A branch keeps the plan from which it began, whatever becomes of its parent: steps and merges", """
            receive(5) = 5 fork() = 1 fork() = 2 select(2) = 0 receive(90) = 90 select(0) = 2
            receive(6) = 6 advance(30) = 0 merge(2) = 1 total(0) = 101
            select(1) = 0 total(0) = 5 total(5) = 0 receive(1) = 1 undo() = 0 total(0) = 5
            """);
        Script.run("A branch keeps the plan from which it began, whatever becomes of its parent: what is restored", """
            receive(5) = 5 save() = 1 receive(6) = 6 fork() = 1 select(1) = 0 receive(1) = 1 save() = 2
            select(0) = 1 undo() = 1 undo() = 0 restore() = 2 select(0) = 1 undo() = 1 undo() = 0
            select(1) = 0 total(0) = 12 undo() = 0 total(0) = 11
            """);
    }

    private static void argumentsStay() {
        Script.run("The arguments of steps stay as they were when another step is taken out, and their numbers are meant anew", """
            addEnvelope(10, 0) = 0 addEnvelope(20, 0) = 1 addEnvelope(30, 0) = 2 setCap(1, 25) = 20
            addRule(0, 1, 5) = 0 addRule(0, 0, 4) = 1 removeRule(0) = 1 receive(9) = 5
            envelope(0, 0) = 4
            dropStep(0) = 7
            # envelope 1 is the one that was envelope 2, and its cap was set; envelope 0 is the one that was envelope 1
            step(2, 0) = 1 step(2, 1) = 1 step(2, 2) = 25 step(3, 2) = 1 step(4, 2) = 0 step(5, 1) = 0
            total(8) = 2 envelope(0, 1) = 20 envelope(1, 1) = 25 envelope(0, 0) = 4 envelope(1, 0) = 0
            # without the first rule the removal takes the one that was the second rule
            dropStep(3) = 6 total(9) = 0 envelope(0, 0) = 0 total(0) = 9 step(4, 0) = 4 step(4, 1) = 0
            """);
        Script.run("Their numbers are meant anew: items and links", """
            addEnvelope(-1, 0) = 0 addEnvelope(-1, 0) = 1 addItem(0, 0, 1, 1) = 0 addItem(0, 0, 20, 1) = 1
            addItem(0, 0, 300, 1) = 2 removeItem(1) = 2 advance(1) = 0 total(0) = 301
            dropStep(2) = 6 total(0) = 20 step(4, 0) = 8 step(4, 1) = 1
            addLink(0, 1, 1, 1) = 0 addLink(1, 0, 2, 2) = 1 removeLink(0) = 1 advance(1) = 0 link(0, 2) = 2
            dropStep(6) = 9 total(10) = 0
            """);
    }

    private static void conflictStays() {
        String start = """
            addEnvelope(-1, 0) = 0 receive(5) = 5 fork() = 1 fork() = 2 select(1) = 0 receive(1) = 1 spend(0, 6) = 6
            select(0) = 1 spend(0, 5) = 5 merge(1) = throws.Unsupported conflict(true) = 4 conflict(false) = 1
            """;
        Script.run("What conflict tells stays behind other calls of merge", start + """
            merge(2) = 0 merge(2) = throws.None merge(0) = throws.State
            receive(5) = 5 merge(1) = 2 conflict(true) = 4 conflict(false) = 1
            """);
        Script.run("What conflict tells stays behind save and restore", "save() = 1\n" + start + """
            save() = 3 conflict(true) = 4 conflict(false) = 1
            restore() = 3 conflict(true) = 4 conflict(false) = 1 discard(1) = 2 undo() = 2 clearReason() = 0
            conflict(true) = 4 conflict(false) = 1
            """);
        Script.run("What conflict tells stays behind restore of what was saved ahead of it", "save() = 1\n" + start + """
            restore() = 1 total(8) = 0 conflict(true) = 4 conflict(false) = 1
            """);
        Script.run("Merge leaves the kept reason", start + """
            clearReason() = 0
            receive(0) = throws.Argument merge(1) = throws.Unsupported conflict(true) = 4 clearReason() = 2
            spend(7, 1) = throws.Index receive(5) = 5 merge(1) = 2 merge(2) = 0 merge(2) = throws.None clearReason() = 1
            """);
    }

    private static void zerosAndNothing() {
        Script.run("Amounts may begin with zeros", """
            input(n;r0000050;mp>0:007;s0:02;d01) = 29 readPlan() = 5 total(0) = 43 envelope(0, 0) = 5 total(5) = 1
            step(1, 1) = 50 step(2, 3) = 7 step(3, 2) = 2 step(4, 1) = 1
            input(r01000000) = 9 readPlan() = -108
            """);
        Script.run("An empty input has an error at 0", """
            readPlan() = -100 branch(0, 1) = 0 clearReason() = 0 readPlan() = -100 feed('n') = 1 readPlan() = 1
            readPlan() = -100
            """);
    }
}
