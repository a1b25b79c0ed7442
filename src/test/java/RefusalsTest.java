/**
 * Each refused call of each method: the exception that the document names, in the order in which it lists them, on a
 * plan with room, on a full one, and on branches with 60 steps. Script looks at the reason and at the rest of the state.
 */
public final class RefusalsTest {
    private static final Place PLAIN = new Place("with room", """
        addEnvelope(300, 2) = 0 addEnvelope(-1, 0) = 1 addRule(1, 0, 10) = 0 addRule(4, 1, 3) = 1
        addLink(1, 0, 50, 20) = 0 addItem(1, 1, 40, 9) = 0
        receive(1000) = 0 move(1, -1, 200) = 200
        envelope(0, 0) = 300 envelope(1, 0) = 500 total(0) = 200
        fork() = 1 select(1) = 0 spend(0, 1) = 0 select(0) = 1
        save() = 2 fork() = 2 input(r5) = 2
        """, 2, 2, 1, 1, 8, false, false);
    private static final String ALL_PARTS = """
        addEnvelope(-1, 0) = 0 addEnvelope(-1, 0) = 1 addEnvelope(-1, 0) = 2 addEnvelope(-1, 0) = 3
        addEnvelope(-1, 0) = 4 addEnvelope(-1, 0) = 5 addEnvelope(-1, 0) = 6 addEnvelope(-1, 0) = 7
        addEnvelope(-1, 0) = 8 addEnvelope(-1, 0) = 9
        addRule(0, 9, 1) = 0 addRule(0, 9, 1) = 1 addRule(0, 9, 1) = 2 addRule(0, 9, 1) = 3 addRule(0, 9, 1) = 4
        addRule(0, 9, 1) = 5
        addLink(0, 1, 9000000, 1) = 0 addLink(1, 2, 9000000, 1) = 1 addLink(2, 3, 9000000, 1) = 2
        addLink(3, 4, 9000000, 1) = 3 addLink(4, 5, 9000000, 1) = 4 addLink(5, 6, 9000000, 1) = 5
        addItem(0, 0, 5, 60) = 0 addItem(0, 0, 5, 60) = 1 addItem(0, 0, 5, 60) = 2 addItem(0, 0, 5, 60) = 3
        addItem(0, 0, 5, 60) = 4 addItem(0, 0, 5, 60) = 5 addItem(0, 0, 5, 60) = 6 addItem(0, 0, 5, 60) = 7
        receive(10) = 4
        """;
    private static final Place FULL = new Place("full", ALL_PARTS, 10, 6, 6, 8, 31, true, false);
    private static final Place SIXTY = new Place("with 60 steps", PLAIN.run + """
        52x receive(1) = 0
        """, 2, 2, 1, 1, 60, false, true);
    private static final Place FULL_SIXTY = new Place("full, with 60 steps", ALL_PARTS + """
        29x receive(1) = 0
        """, 10, 6, 6, 8, 60, true, true);
    private static final Place[] PLACES = {PLAIN, FULL, SIXTY, FULL_SIXTY};

    /** A run that comes to a plan, and how many envelopes (E), rules, links, items and steps (S) there are then. */
    private record Place(String name, String run, int envelopes, int rules, int links, int items, int steps,
            boolean isFull, boolean isSixty) {
        String calls(String calls, String due) {
            return calls.replace(")", ") = " + due + "\n")
                .replaceAll("\\bE\\b", "" + envelopes).replaceAll("\\bR\\b", "" + rules)
                .replaceAll("\\bL\\b", "" + links).replaceAll("\\bI\\b", "" + items).replaceAll("\\bS\\b", "" + steps);
        }
    }

    public static void main(String[] args) {
        envelopes();
        rules();
        links();
        items();
        money();
        days();
        tooLittleMoney();
        questions();
        forecasts();
        numbersOfSteps();
        onANewObject();
        otherBranches();
        reasonsStay();
        Checks.finish();
    }

    /** A step of which many are possible, or few: the calls that come to each of its exceptions, in their order. */
    private static void step(String promise, String index, String argument, String good, boolean isOfFew) {
        for (Place place : PLACES) {
            String due = place.isSixty || place.isFull && isOfFew ? place.calls(good, "throws.State3") : "";
            Script.run(promise + ", " + place.name, place.run
                + place.calls(index, "throws.Index") + place.calls(argument, "throws.Argument") + due);
        }
    }

    /** A call that makes no step. */
    private static void question(String promise, String index, String argument) {
        for (Place place : new Place[] {PLAIN, FULL_SIXTY}) {
            Script.run(promise + ", " + place.name, place.run
                + place.calls(index, "throws.Index") + place.calls(argument, "throws.Argument"));
        }
    }

    private static void envelopes() {
        step("Promise 2: addEnvelope", "", """
            addEnvelope(-2, 0) addEnvelope(9000001, 0) addEnvelope(least, 0) addEnvelope(greatest, 0)
            addEnvelope(0, -1) addEnvelope(0, 3) addEnvelope(0, least) addEnvelope(0, greatest) addEnvelope(-2, 3)
            """, "addEnvelope(0, 0)", true);
        Script.run("Promise 2: what is in range", PLAIN.run + """
            addEnvelope(-1, 0) = 2 addEnvelope(0, 1) = 3 addEnvelope(9000000, 2) = 4
            envelope(2, 1) = -1 envelope(3, 1) = 0 envelope(4, 1) = 9000000
            envelope(2, 2) = 0 envelope(3, 2) = 1 envelope(4, 2) = 2 envelope(4, 0) = 0
            """);
        step("Promise 3: setCap", """
            setCap(-1, 5) setCap(E, 5) setCap(least, 5) setCap(greatest, 5) setCap(-1, -2) setCap(E, 9000001)
            """, """
            setCap(0, -2) setCap(0, 9000001) setCap(1, least) setCap(1, greatest)
            """, "setCap(0, 5)", false);
        Script.run("Promise 3: what is in range; the balance stays, even if it is greater", PLAIN.run + """
            setCap(0, -1) = 300 setCap(0, 299) = -1 envelope(0, 0) = 300 setCap(0, 0) = 299 envelope(0, 0) = 300
            setCap(1, 9000000) = -1 envelope(1, 1) = 9000000 envelope(1, 0) = 500 setCap(0, 0) = 0
            """);
        step("Promise 4: setRollover", """
            setRollover(-1, 0) setRollover(E, 0) setRollover(least, 0) setRollover(greatest, 0) setRollover(E, 3)
            """, """
            setRollover(0, -1) setRollover(0, 3) setRollover(1, least) setRollover(1, greatest)
            """, "setRollover(0, 0)", false);
        Script.run("Promise 4: what is in range", PLAIN.run + """
            setRollover(0, 0) = 2 setRollover(0, 1) = 0 setRollover(1, 2) = 0 setRollover(1, 2) = 2
            envelope(0, 2) = 1 envelope(1, 2) = 2
            """);
    }

    private static void rules() {
        step("Promise 5: addRule", """
            addRule(0, -1, 5) addRule(0, E, 5) addRule(3, least, 0) addRule(3, greatest, 0)
            addRule(5, E, 5) addRule(0, E, 0) addRule(-1, -1, -1)
            """, """
            addRule(-1, 0, 1) addRule(5, 0, 1) addRule(5, 0, 0) addRule(least, 0, 1) addRule(greatest, 0, 1)
            addRule(0, 0, 0) addRule(0, 0, 1000001) addRule(1, 0, 0) addRule(1, 0, 101)
            addRule(2, 1, 0) addRule(2, 1, 101) addRule(3, 1, -1) addRule(3, 1, 1) addRule(4, 1, 0) addRule(4, 1, 100)
            addRule(0, 0, least) addRule(0, 0, greatest) addRule(3, 0, least) addRule(4, 0, -1)
            """, "addRule(0, 0, 5)", true);
        Script.run("Promise 5: what is in range of the kinds 0, 1 and 2", PLAIN.run + """
            removeRule(0) = 1 removeRule(0) = 0
            addRule(0, 1, 1) = 0 addRule(0, 0, 1000000) = 1 addRule(1, 1, 1) = 2 addRule(1, 0, 100) = 3
            addRule(2, 1, 1) = 4 addRule(2, 0, 100) = 5
            rule(0, 2) = 1 rule(1, 2) = 1000000 rule(2, 2) = 1 rule(3, 2) = 100 rule(4, 2) = 1 rule(5, 2) = 100
            """);
        Script.run("Promise 5: what is in range of the kinds 3 and 4", PLAIN.run + """
            addRule(3, 1, 0) = 2 addRule(4, 0, 1) = 3 addRule(4, 1, 99) = 4
            rule(2, 0) = 3 rule(2, 2) = 0 rule(3, 0) = 4 rule(3, 2) = 1 rule(4, 1) = 1 rule(4, 2) = 99
            """);
        step("Promise 6: removeRule", """
            removeRule(-1) removeRule(R) removeRule(6) removeRule(least) removeRule(greatest)
            """, "", "removeRule(0)", false);
        Script.run("Promise 6: the number of rules that remain", PLAIN.run + """
            removeRule(1) = 1 removeRule(1) = throws.Index removeRule(0) = 0 removeRule(0) = throws.Index
            """);
    }

    private static void links() {
        step("Promise 7: addLink", """
            addLink(-1, 0, 5, 5) addLink(0, -1, 5, 5) addLink(E, 0, 5, 5) addLink(0, E, 5, 5) addLink(E, E, 5, 5)
            addLink(-1, -1, -1, 0) addLink(0, E, -1, 5) addLink(E, 0, 5, 101) addLink(least, 0, 5, 5)
            addLink(0, greatest, 5, 5)
            """, """
            addLink(0, 0, 5, 5) addLink(1, 1, 5, 5) addLink(0, 1, -1, 5) addLink(0, 1, 9000001, 5)
            addLink(0, 1, 5, 0) addLink(0, 1, 5, 101) addLink(1, 0, least, 5) addLink(1, 0, greatest, 5)
            addLink(1, 0, 5, least) addLink(1, 0, 5, greatest) addLink(0, 0, -1, 0)
            """, "addLink(0, 1, 5, 5)", true);
        Script.run("Promise 7: what is in range", PLAIN.run + """
            addLink(0, 1, 0, 1) = 1 addLink(1, 0, 9000000, 100) = 2
            link(1, 0) = 0 link(1, 1) = 1 link(1, 2) = 0 link(1, 3) = 1 link(2, 2) = 9000000 link(2, 3) = 100
            """);
        step("Promise 8: removeLink", """
            removeLink(-1) removeLink(L) removeLink(6) removeLink(least) removeLink(greatest)
            """, "", "removeLink(0)", false);
        Script.run("Promise 8: the number of links that remain", PLAIN.run + """
            addLink(0, 1, 5, 5) = 1 removeLink(1) = 1 removeLink(1) = throws.Index removeLink(0) = 0
            removeLink(0) = throws.Index
            """);
    }

    private static void items() {
        step("Promise 9: addItem", """
            addItem(1, -1, 5, 5) addItem(1, E, 5, 5) addItem(1, least, 5, 5) addItem(1, greatest, 5, 5)
            addItem(1, E, 0, 5) addItem(1, -1, 5, 0)
            """, """
            addItem(-1, 0, 5, 5) addItem(2, 0, 5, 5) addItem(2, E, 5, 5) addItem(least, 0, 5, 5)
            addItem(greatest, 0, 5, 5)
            addItem(0, 0, 0, 5) addItem(0, 0, 1000001, 5) addItem(0, 0, 5, 0) addItem(0, 0, 5, 61)
            addItem(1, 0, 0, 5) addItem(1, 0, 1000001, 5) addItem(1, 0, 5, 0) addItem(1, 0, 5, 61)
            addItem(0, 1, 5, 5) addItem(0, -1, 5, 5) addItem(0, E, 5, 5) addItem(0, greatest, 0, 0)
            addItem(1, 1, least, 5) addItem(1, 1, greatest, 5) addItem(1, 1, 5, least) addItem(1, 1, 5, greatest)
            """, "addItem(0, 0, 5, 5)", true);
        Script.run("Promise 9: what is in range", PLAIN.run + """
            addItem(0, 0, 1, 1) = 1 addItem(0, 0, 1000000, 60) = 2 addItem(1, 1, 1, 60) = 3 addItem(1, 0, 1000000, 1) = 4
            item(2, 0) = 0 item(2, 1) = 0 item(2, 2) = 1000000 item(2, 3) = 60 item(2, 4) = 60
            item(3, 0) = 1 item(3, 1) = 1 item(3, 2) = 1 item(4, 3) = 1 item(4, 4) = 1
            """);
        step("Promise 10: removeItem", """
            removeItem(-1) removeItem(I) removeItem(8) removeItem(least) removeItem(greatest)
            """, "", "removeItem(0)", false);
        Script.run("Promise 10: the number of items that remain", PLAIN.run + """
            addItem(0, 0, 5, 5) = 1 removeItem(1) = 1 removeItem(1) = throws.Index removeItem(0) = 0
            removeItem(0) = throws.Index
            """);
    }

    private static void money() {
        step("Promise 11: receive", "", """
            receive(0) receive(1000001) receive(-1) receive(least) receive(greatest)
            """, "receive(1)", false);
        Script.run("Promise 11: what is in range", PLAIN.run + """
            removeRule(1) = 1 receive(1) = 1 receive(1000000) = 1000000 total(2) = 1001001
            """);
        step("Promise 12: spend", """
            spend(-1, 1) spend(E, 1) spend(least, 1) spend(greatest, 1) spend(-1, 0) spend(E, 1000001)
            """, """
            spend(0, 0) spend(0, 1000001) spend(1, -1) spend(1, least) spend(1, greatest)
            """, "spend(1, 1) spend(0, 1000000)", false);
        Script.run("Promise 12: what is in range", PLAIN.run + """
            spend(0, 1) = 0 receive(1000000) = 0 spend(1, 1000000) = 0 total(3) = 1000001
            """);
        step("Promise 13: move", """
            move(-2, 0, 1) move(0, -2, 1) move(E, 0, 1) move(0, E, 1) move(-1, E, 1) move(E, -1, 1) move(E, E, 1)
            move(-2, -2, 0) move(E, 0, 0) move(0, E, 1000001) move(least, 0, 1) move(0, greatest, 1)
            """, """
            move(0, 0, 1) move(1, 1, 1) move(-1, -1, 1) move(0, 1, 0) move(0, 1, 1000001) move(-1, 0, 0)
            move(-1, 0, -1) move(1, -1, 1000001) move(0, 1, least) move(0, 1, greatest) move(0, 0, 0)
            """, "move(1, -1, 1) move(-1, 1, 1) move(0, -1, 1000000)", false);
        Script.run("Promise 13: what is in range", PLAIN.run + """
            move(-1, 1, 1) = 1 move(0, -1, 1) = 1 receive(1000000) = 0 move(1, -1, 1000000) = 1000000
            """);
    }

    private static void days() {
        step("Promise 14: advance", "", """
            advance(0) advance(61) advance(-1) advance(least) advance(greatest)
            """, "advance(1) advance(60)", false);
        Script.run("Promise 14: what is in range", PLAIN.run + """
            advance(1) = 0 total(5) = 1 advance(60) = 0 total(5) = 61
            """);
    }

    private static void tooLittleMoney() {
        Script.run("Promise 12: there is not enough money in the envelope and the pool", PLAIN.run + """
            spend(0, 501) = throws.State4 spend(1, 701) = throws.State4 spend(0, 1000000) = throws.State4
            spend(2, 501) = throws.Index spend(0, 1000001) = throws.Argument
            spend(0, 500) = 200 total(0) = 0
            """);
        Script.run("Promise 13: there is not so much money in from", PLAIN.run + """
            move(0, 1, 301) = throws.State4 move(0, -1, 301) = throws.State4 move(1, 0, 501) = throws.State4
            move(-1, 1, 201) = throws.State4 move(-1, 0, 201) = throws.State4 move(1, -1, 1000000) = throws.State4
            move(0, 0, 301) = throws.Argument move(0, 2, 301) = throws.Index
            # the pool does not help an envelope, and what fits does not matter
            move(1, 0, 500) = 0 move(-1, 0, 200) = 0 move(0, -1, 300) = 300
            """);
        Script.run("Refusals: 60 steps are checked before those about money", SIXTY.run + """
            spend(0, 1000000) = throws.State3 move(0, 1, 1000000) = throws.State3 move(-1, 0, 1000000) = throws.State3
            undo() = 59 spend(0, 1000000) = throws.State4 move(0, 1, 1000000) = throws.State4
            move(-1, 0, 1000000) = throws.State4
            """);
        Script.run("Refusals: each of the 13 kinds fits as the 60th step, and none as the 61st", """
            addEnvelope(-1, 0) = 0 addEnvelope(-1, 0) = 1 addRule(0, 0, 5) = 0 addLink(0, 1, 900, 5) = 0
            addItem(0, 0, 5, 60) = 0
            54x receive(1) = 0
            addEnvelope(5, 0) = 2 setCap(0, 5) = throws.State3 undo() = 59
            setCap(0, 500) = -1 setRollover(0, 1) = throws.State3 undo() = 59
            setRollover(0, 1) = 0 addRule(3, 0, 0) = throws.State3 undo() = 59
            addRule(3, 0, 0) = 1 removeRule(0) = throws.State3 undo() = 59
            removeRule(0) = 0 addLink(1, 0, 5, 5) = throws.State3 undo() = 59
            addLink(1, 0, 5, 5) = 1 removeLink(0) = throws.State3 undo() = 59
            removeLink(0) = 0 addItem(1, 0, 5, 5) = throws.State3 undo() = 59
            addItem(1, 0, 5, 5) = 1 removeItem(0) = throws.State3 undo() = 59
            removeItem(0) = 0 receive(5) = throws.State3 undo() = 59
            receive(5) = 0 spend(0, 5) = throws.State3 undo() = 59
            spend(0, 5) = 0 move(0, 1, 5) = throws.State3 undo() = 59
            move(0, 1, 5) = 5 advance(5) = throws.State3 undo() = 59
            advance(5) = 0 addEnvelope(5, 0) = throws.State3
            branch(0, 1) = 60
            """);
    }

    private static void questions() {
        question("Promise 15: envelope", """
            envelope(-1, 0) envelope(E, 0) envelope(10, 0) envelope(least, 0) envelope(greatest, 0)
            envelope(E, 5) envelope(-1, -1)
            """, """
            envelope(0, -1) envelope(0, 5) envelope(0, least) envelope(0, greatest)
            """);
        question("Promise 16: rule", """
            rule(-1, 0) rule(R, 0) rule(6, 0) rule(least, 0) rule(greatest, 0) rule(R, 3) rule(-1, -1)
            """, """
            rule(0, -1) rule(0, 3) rule(0, least) rule(0, greatest)
            """);
        question("Promise 17: split", """
            split(-2, 1) split(E, 1) split(10, 1) split(least, 1) split(greatest, 1) split(E, 0) split(-2, 1000001)
            """, """
            split(-1, 0) split(0, 0) split(-1, 1000001) split(0, 1000001) split(0, -1) split(0, least)
            split(-1, greatest)
            """);
        question("Promise 18: link", """
            link(-1, 0) link(L, 0) link(6, 0) link(least, 0) link(greatest, 0) link(L, 5) link(-1, -1)
            """, """
            link(0, -1) link(0, 5) link(0, least) link(0, greatest)
            """);
        question("Promise 19: item", """
            item(-1, 0) item(I, 0) item(8, 0) item(least, 0) item(greatest, 0) item(I, 6) item(-1, -1)
            """, """
            item(0, -1) item(0, 6) item(0, least) item(0, greatest)
            """);
        question("Promise 20: total", "", """
            total(-1) total(12) total(least) total(greatest)
            """);
    }

    private static void forecasts() {
        question("Promise 22: forecast", "", """
            forecast(0, 0) forecast(201, 0) forecast(-1, 0) forecast(least, 0) forecast(greatest, 0)
            forecast(1, -1) forecast(1, 10) forecast(1, least) forecast(1, greatest) forecast(0, 10)
            """);
        question("Promise 23: daysUntil", """
            daysUntil(-1, 0) daysUntil(E, 0) daysUntil(10, 0) daysUntil(least, 0) daysUntil(greatest, 0)
            daysUntil(E, -1) daysUntil(-1, 9000001)
            """, """
            daysUntil(0, -1) daysUntil(0, 9000001) daysUntil(0, least) daysUntil(0, greatest)
            """);
        question("Promise 24: spare", """
            spare(-1, 1) spare(E, 1) spare(10, 1) spare(least, 1) spare(greatest, 1) spare(E, 0) spare(-1, 61)
            """, """
            spare(0, 0) spare(0, 61) spare(0, -1) spare(0, least) spare(0, greatest)
            """);
    }

    private static void numbersOfSteps() {
        question("Promise 32: step", """
            step(-1, 0) step(S, 0) step(60, 0) step(61, 0) step(least, 0) step(greatest, 0) step(S, 5) step(-1, -1)
            """, """
            step(0, -1) step(0, 5) step(0, least) step(0, greatest)
            """);
        for (Place place : PLACES) {
            Script.run("Promise 34: dropStep, " + place.name, place.run + place.calls("""
                dropStep(-1) dropStep(S) dropStep(60) dropStep(least) dropStep(greatest)
                """, "throws.Index") + "dropStep(" + (place.steps - 1) + ") = throws.Index\n"
                // without its first envelope the plan has not all that the later steps name
                + "dropStep(0) = throws.Unsupported\n");
        }
    }

    private static void onANewObject() {
        Script.run("Promise 1: a new object has no part, no other branch, nothing saved, and no reason", """
            envelope(0, 0) = throws.Index rule(0, 0) = throws.Index link(0, 0) = throws.Index item(0, 0) = throws.Index
            split(0, 1) = throws.Index daysUntil(0, 0) = throws.Index spare(0, 1) = throws.Index
            step(0, 0) = throws.Index dropStep(0) = throws.Index dropStep(-1) = throws.Index
            select(1) = throws.None discard(1) = throws.None merge(1) = throws.None branch(1, 0) = throws.None
            difference(0, 1, 0) = throws.None difference(1, 0, 0) = throws.None
            discard(0) = throws.State merge(0) = throws.State
            conflict(true) = throws.None conflict(false) = throws.None
            undo() = throws.State restore() = throws.State savedShare() = throws.Arithmetic
            clearReason() = 0
            select(0) = 0 branch(0, 0) = -1 branch(0, 1) = 0 branch(0, 2) = 0
            split(-1, 1) = 1 split(-1, 1000000) = 1000000 forecast(1, 0) = 0 forecast(200, 5) = 200
            difference(0, 0, -1) = 0 difference(0, 0, 9) = 0
            """);
        Script.run("Promise 1: the steps that a new object refuses", """
            setCap(0, 0) = throws.Index setRollover(0, 0) = throws.Index addRule(0, 0, 1) = throws.Index
            removeRule(0) = throws.Index addLink(0, 1, 0, 1) = throws.Index removeLink(0) = throws.Index
            addItem(1, 0, 1, 1) = throws.Index removeItem(0) = throws.Index spend(0, 1) = throws.Index
            move(0, -1, 1) = throws.Index move(-1, 0, 1) = throws.Index move(-1, -1, 1) = throws.Argument
            branch(0, 1) = 0
            """);
    }

    private static void otherBranches() {
        Script.run("Refusals: the 60 steps of another branch do not matter", SIXTY.run + """
            select(1) = 0 receive(1) = 0 branch(1, 1) = 2
            fork() = 3 select(3) = 1 receive(1) = 0 branch(3, 1) = 1 select(0) = 3
            receive(1) = throws.State3
            """);
        Script.run("Refusals: a branch other than branch 0 has at most 60 steps, too", """
            receive(1) = 1 fork() = 1 select(1) = 0
            59x receive(1) = 1
            branch(1, 1) = 59 receive(1) = 1 branch(1, 1) = 60
            receive(1) = throws.State3 step(59, 0) = 9 step(60, 0) = throws.Index branch(0, 1) = 1
            select(0) = 1 receive(1) = 1 branch(0, 1) = 2
            """);
        Script.run("Plans: the parts of another branch do not matter", FULL.run + """
            fork() = 1 undo() = 30 undo() = 29 addItem(0, 0, 1, 1) = 7
            select(1) = 0 addItem(0, 0, 1, 1) = throws.State3 addEnvelope(1, 1) = throws.State3
            select(0) = 1 undo() = 29 addItem(0, 0, 2, 2) = 7
            """);
    }

    private static void reasonsStay() {
        Script.run("Refusals: the latest reason is kept, until it is cleared", """
            addEnvelope(-1, 0) = 0
            spend(0, 1) = throws.State4 receive(0) = throws.Argument spend(1, 1) = throws.Index
            clearReason() = 1 clearReason() = 0
            receive(0) = throws.Argument spend(0, 1) = throws.State4 receive(1) = 1
            clearReason() = 4 clearReason() = 0
            """);
        Script.run("Refusals: no other call changes the reason, whether it answers or throws", """
            addEnvelope(-1, 0) = 0 addEnvelope(-1, 0) = 1 addRule(0, 0, 1) = 0 addLink(0, 1, 0, 1) = 0
            addItem(0, 0, 1, 1) = 0 receive(5) = 4
            spend(0, 100) = throws.State4
            setCap(0, 9) = -1 setRollover(0, 1) = 0 addEnvelope(0, 0) = 2 addRule(0, 0, 2) = 1 removeRule(0) = 1
            addLink(1, 0, 5, 5) = 1 removeLink(1) = 1 addItem(0, 0, 5, 5) = 1 removeItem(1) = 1 receive(1) = 0
            spend(0, 1) = 0 move(-1, 0, 1) = 1 advance(1) = 0
            envelope(0, 0) = 3 rule(0, 0) = 0 split(0, 1) = 1 link(0, 0) = 0 item(0, 0) = 0 total(0) = 3
            savedShare() = 6/7 forecast(1, 5) = 2 daysUntil(0, 0) = 0 spare(0, 1) = 6
            fork() = 1 select(1) = 0 receive(1) = 0 select(0) = 1 merge(1) = 1 fork() = 1 discard(1) = 0
            branch(0, 0) = -1 difference(0, 0, 0) = 0 step(0, 0) = 0 undo() = 19 dropStep(18) = throws.Index
            dropStep(17) = 18 input(n) = 1 readPlan() = 1 save() = 1 restore() = 1
            envelope(9, 0) = throws.Index total(12) = throws.Argument select(1) = throws.None discard(0) = throws.State
            clearReason() = 4
            """);
    }
}
