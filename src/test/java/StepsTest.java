/** Promises 1 to 14: a new object, and the steps. */
public final class StepsTest {
    private static final Class<? extends Exception> INDEX = IndexOutOfBoundsException.class;
    private static final Class<? extends Exception> ARGUMENT = IllegalArgumentException.class;
    private static final Class<? extends Exception> STATE = IllegalStateException.class;
    private static final Class<? extends Exception> NONE = java.util.NoSuchElementException.class;

    public static void main(String[] args) {
        newObject();
        addEnvelope();
        setCap();
        setRollover();
        addRule();
        removeRule();
        addLink();
        removeLink();
        addItem();
        removeItem();
        receiveByFixedAndParts();
        receiveByFill();
        receiveByShares();
        receiveRefused();
        spend();
        spendSettles();
        move();
        moveSettles();
        settling();
        advanceItems();
        advanceRollsOver();
        advanceRefused();
        reasonsStayUntilCleared();
        Checks.finish();
    }

    private static EnvelopePlanner withEnvelopes(int... caps) {
        EnvelopePlanner x = new EnvelopePlanner();
        for (int cap : caps) {
            x.addEnvelope(cap, 0);
        }
        return x;
    }

    /** Fills the present branch with days up to its 60 steps. */
    private static EnvelopePlanner fill(EnvelopePlanner x) {
        while (x.branch(0, 1) < 60) {
            x.advance(1);
        }
        return x;
    }

    private static void balances(EnvelopePlanner x, long pool, long... due) {
        Checks.eq("total(0)", x.total(0), pool);
        for (int e = 0; e < due.length; e++) {
            Checks.eq("envelope(" + e + ", 0)", x.envelope(e, 0), due[e]);
        }
    }

    private static void newObject() {
        Checks.at("promise 1");
        EnvelopePlanner x = new EnvelopePlanner();
        for (int what = 0; what <= 11; what++) {
            Checks.eq("total(" + what + ")", x.total(what), 0);
        }
        Checks.eq("branch(0, 0)", x.branch(0, 0), -1);
        for (int what = 1; what <= 5; what++) {
            Checks.eq("branch(0, " + what + ")", x.branch(0, what), 0);
        }
        for (int b = 1; b <= 5; b++) {
            int branch = b;
            Checks.refused(x, "branch(" + b + ", 0)", NONE, () -> x.branch(branch, 0));
        }
        Checks.eq("clearReason()", x.clearReason(), 0);
        Checks.eq("select(0)", x.select(0), 0);
        Checks.refused(x, "restore()", STATE, () -> x.restore());
        Checks.refused(x, "conflict(true)", NONE, () -> x.conflict(true));
        Checks.refused(x, "undo()", STATE, () -> x.undo());
        Checks.eq("readPlan()", x.readPlan(), -100);
    }

    private static void addEnvelope() {
        Checks.at("promise 2");
        EnvelopePlanner x = new EnvelopePlanner();
        Checks.step(x, "addEnvelope(-2, 0)", ARGUMENT, 2, () -> x.addEnvelope(-2, 0));
        Checks.step(x, "addEnvelope(9000001, 0)", ARGUMENT, 2, () -> x.addEnvelope(9000001, 0));
        Checks.step(x, "addEnvelope(5, -1)", ARGUMENT, 2, () -> x.addEnvelope(5, -1));
        Checks.step(x, "addEnvelope(5, 3)", ARGUMENT, 2, () -> x.addEnvelope(5, 3));
        Checks.eq("addEnvelope(-1, 0)", x.addEnvelope(-1, 0), 0);
        Checks.eq("addEnvelope(0, 1)", x.addEnvelope(0, 1), 1);
        Checks.eq("addEnvelope(9000000, 2)", x.addEnvelope(9000000, 2), 2);
        Checks.eq("envelope(2, 1)", x.envelope(2, 1), 9000000);
        Checks.eq("envelope(2, 2)", x.envelope(2, 2), 2);
        Checks.eq("envelope(1, 1)", x.envelope(1, 1), 0);
        for (int e = 3; e < 10; e++) {
            Checks.eq("addEnvelope(7, 0)", x.addEnvelope(7, 0), e);
        }
        Checks.eq("total(8)", x.total(8), 10);
        Checks.step(x, "the 11th addEnvelope", STATE, 3, () -> x.addEnvelope(7, 0));
        Checks.step(x, "the 11th addEnvelope(-2, 0)", ARGUMENT, 2, () -> x.addEnvelope(-2, 0));
        EnvelopePlanner y = fill(new EnvelopePlanner());
        Checks.step(y, "addEnvelope with 60 steps", STATE, 3, () -> y.addEnvelope(7, 0));
        Checks.step(y, "addEnvelope(7, 3) with 60 steps", ARGUMENT, 2, () -> y.addEnvelope(7, 3));
    }

    private static void setCap() {
        Checks.at("promise 3");
        EnvelopePlanner x = withEnvelopes(500, -1);
        x.addRule(0, 0, 400);
        x.receive(400);
        Checks.eq("setCap(0, 100)", x.setCap(0, 100), 500);
        balances(x, 0, 400, 0);
        Checks.eq("envelope(0, 1)", x.envelope(0, 1), 100);
        Checks.eq("setCap(0, -1)", x.setCap(0, -1), 100);
        Checks.eq("setCap(0, 0)", x.setCap(0, 0), -1);
        Checks.eq("setCap(1, 9000000)", x.setCap(1, 9000000), -1);
        Checks.eq("envelope(1, 1)", x.envelope(1, 1), 9000000);
        Checks.step(x, "setCap(-1, 5)", INDEX, 1, () -> x.setCap(-1, 5));
        Checks.step(x, "setCap(2, 5)", INDEX, 1, () -> x.setCap(2, 5));
        Checks.step(x, "setCap(2, -2)", INDEX, 1, () -> x.setCap(2, -2));
        Checks.step(x, "setCap(0, -2)", ARGUMENT, 2, () -> x.setCap(0, -2));
        Checks.step(x, "setCap(0, 9000001)", ARGUMENT, 2, () -> x.setCap(0, 9000001));
        fill(x);
        Checks.step(x, "setCap with 60 steps", STATE, 3, () -> x.setCap(0, 5));
        Checks.step(x, "setCap(2, 5) with 60 steps", INDEX, 1, () -> x.setCap(2, 5));
        Checks.step(x, "setCap(0, -2) with 60 steps", ARGUMENT, 2, () -> x.setCap(0, -2));
    }

    private static void setRollover() {
        Checks.at("promise 4");
        EnvelopePlanner x = withEnvelopes(500);
        Checks.eq("setRollover(0, 2)", x.setRollover(0, 2), 0);
        Checks.eq("setRollover(0, 1)", x.setRollover(0, 1), 2);
        Checks.eq("setRollover(0, 0)", x.setRollover(0, 0), 1);
        Checks.eq("envelope(0, 2)", x.envelope(0, 2), 0);
        Checks.step(x, "setRollover(1, 0)", INDEX, 1, () -> x.setRollover(1, 0));
        Checks.step(x, "setRollover(-1, 5)", INDEX, 1, () -> x.setRollover(-1, 5));
        Checks.step(x, "setRollover(0, -1)", ARGUMENT, 2, () -> x.setRollover(0, -1));
        Checks.step(x, "setRollover(0, 3)", ARGUMENT, 2, () -> x.setRollover(0, 3));
        fill(x);
        Checks.step(x, "setRollover with 60 steps", STATE, 3, () -> x.setRollover(0, 1));
        Checks.step(x, "setRollover(0, 3) with 60 steps", ARGUMENT, 2, () -> x.setRollover(0, 3));
    }

    private static void addRule() {
        Checks.at("promise 5");
        EnvelopePlanner x = withEnvelopes(500, -1);
        int[][] good = {{0, 1, 1000000}, {1, 0, 100}, {2, 1, 1}, {3, 0, 0}, {4, 1, 99}};
        int[][] bad = {{0, 0, 0}, {0, 0, 1000001}, {1, 0, 0}, {1, 0, 101}, {2, 0, 0}, {2, 0, 101},
            {3, 0, 1}, {3, 0, -1}, {4, 0, 0}, {4, 0, 100}, {5, 0, 1}, {-1, 0, 1}, {5, 0, 0}};
        for (int n = 0; n < good.length; n++) {
            int[] rule = good[n];
            Checks.eq("addRule of kind " + rule[0], x.addRule(rule[0], rule[1], rule[2]), n);
            for (int what = 0; what <= 2; what++) {
                Checks.eq("rule(" + n + ", " + what + ")", x.rule(n, what), rule[what]);
            }
        }
        for (int[] rule : bad) {
            String call = "addRule(" + rule[0] + ", " + rule[1] + ", " + rule[2] + ")";
            Checks.step(x, call, ARGUMENT, 2, () -> x.addRule(rule[0], rule[1], rule[2]));
        }
        Checks.step(x, "addRule(0, 2, 5)", INDEX, 1, () -> x.addRule(0, 2, 5));
        Checks.step(x, "addRule(9, -1, 0)", INDEX, 1, () -> x.addRule(9, -1, 0));
        Checks.eq("the 6th addRule", x.addRule(0, 0, 1), 5);
        Checks.step(x, "the 7th addRule", STATE, 3, () -> x.addRule(0, 0, 1));
        Checks.step(x, "the 7th addRule(0, 0, 0)", ARGUMENT, 2, () -> x.addRule(0, 0, 0));
        EnvelopePlanner y = fill(withEnvelopes(5));
        Checks.step(y, "addRule with 60 steps", STATE, 3, () -> y.addRule(0, 0, 1));
    }

    private static void removeRule() {
        Checks.at("promise 6");
        EnvelopePlanner x = withEnvelopes(-1);
        x.addRule(0, 0, 10);
        x.addRule(1, 0, 20);
        x.addRule(2, 0, 30);
        Checks.step(x, "removeRule(3)", INDEX, 1, () -> x.removeRule(3));
        Checks.step(x, "removeRule(-1)", INDEX, 1, () -> x.removeRule(-1));
        Checks.eq("removeRule(0)", x.removeRule(0), 2);
        Checks.eq("rule(0, 0)", x.rule(0, 0), 1);
        Checks.eq("rule(0, 2)", x.rule(0, 2), 20);
        Checks.eq("rule(1, 2)", x.rule(1, 2), 30);
        Checks.refused(x, "rule(2, 0)", INDEX, () -> x.rule(2, 0));
        EnvelopePlanner y = withEnvelopes(-1, -1, -1);
        y.addRule(0, 0, 10);
        y.addRule(0, 1, 20);
        y.addRule(0, 2, 30);
        y.removeRule(0);
        Checks.eq("rule(0, 1)", y.rule(0, 1), 1);
        Checks.eq("rule(1, 1)", y.rule(1, 1), 2);
        Checks.eq("addRule(4, 0, 40)", x.addRule(4, 0, 40), 2);
        Checks.eq("removeRule(2)", x.removeRule(2), 2);
        fill(x);
        Checks.step(x, "removeRule with 60 steps", STATE, 3, () -> x.removeRule(0));
        Checks.step(x, "removeRule(2) with 60 steps", INDEX, 1, () -> x.removeRule(2));
    }

    private static void addLink() {
        Checks.at("promise 7");
        EnvelopePlanner x = withEnvelopes(500, -1, 70);
        Checks.eq("addLink(0, 1, 0, 1)", x.addLink(0, 1, 0, 1), 0);
        Checks.eq("addLink(2, 0, 9000000, 100)", x.addLink(2, 0, 9000000, 100), 1);
        int[] due = {2, 0, 9000000, 100, 0};
        for (int what = 0; what <= 4; what++) {
            Checks.eq("link(1, " + what + ")", x.link(1, what), due[what]);
        }
        Checks.step(x, "addLink(3, 0, 0, 1)", INDEX, 1, () -> x.addLink(3, 0, 0, 1));
        Checks.step(x, "addLink(0, 3, 0, 1)", INDEX, 1, () -> x.addLink(0, 3, 0, 1));
        Checks.step(x, "addLink(-1, -1, -1, 0)", INDEX, 1, () -> x.addLink(-1, -1, -1, 0));
        Checks.step(x, "addLink(1, 1, 0, 1)", ARGUMENT, 2, () -> x.addLink(1, 1, 0, 1));
        Checks.step(x, "addLink(0, 1, -1, 1)", ARGUMENT, 2, () -> x.addLink(0, 1, -1, 1));
        Checks.step(x, "addLink(0, 1, 9000001, 1)", ARGUMENT, 2, () -> x.addLink(0, 1, 9000001, 1));
        Checks.step(x, "addLink(0, 1, 0, 0)", ARGUMENT, 2, () -> x.addLink(0, 1, 0, 0));
        Checks.step(x, "addLink(0, 1, 0, 101)", ARGUMENT, 2, () -> x.addLink(0, 1, 0, 101));
        for (int k = 2; k < 6; k++) {
            Checks.eq("addLink(0, 1, 5, 5)", x.addLink(0, 1, 5, 5), k);
        }
        Checks.step(x, "the 7th addLink", STATE, 3, () -> x.addLink(0, 1, 5, 5));
        Checks.step(x, "the 7th addLink(0, 0, 5, 5)", ARGUMENT, 2, () -> x.addLink(0, 0, 5, 5));
        EnvelopePlanner y = fill(withEnvelopes(5, 5));
        Checks.step(y, "addLink with 60 steps", STATE, 3, () -> y.addLink(0, 1, 0, 1));
    }

    private static void removeLink() {
        Checks.at("promise 8");
        EnvelopePlanner x = withEnvelopes(-1, -1);
        x.addLink(0, 1, 10, 100);
        x.addLink(1, 0, 20, 30);
        x.addLink(0, 1, 40, 50);
        x.receive(110);
        x.move(-1, 0, 110);
        Checks.eq("link(0, 4)", x.link(0, 4), 100);
        Checks.eq("link(1, 4)", x.link(1, 4), 24);
        Checks.step(x, "removeLink(3)", INDEX, 1, () -> x.removeLink(3));
        Checks.step(x, "removeLink(-1)", INDEX, 1, () -> x.removeLink(-1));
        Checks.eq("removeLink(0)", x.removeLink(0), 2);
        int[] due = {1, 0, 20, 30, 24};
        for (int what = 0; what <= 4; what++) {
            Checks.eq("link(0, " + what + ")", x.link(0, what), due[what]);
        }
        Checks.eq("link(1, 2)", x.link(1, 2), 40);
        Checks.eq("total(6)", x.total(6), 124);
        Checks.eq("addLink(1, 0, 0, 7)", x.addLink(1, 0, 0, 7), 2);
        Checks.eq("link(2, 4)", x.link(2, 4), 0);
        Checks.eq("removeLink(2)", x.removeLink(2), 2);
        Checks.eq("removeLink(1)", x.removeLink(1), 1);
        Checks.eq("removeLink(0)", x.removeLink(0), 0);
        Checks.eq("addLink(1, 0, 9000000, 7)", x.addLink(1, 0, 9000000, 7), 0);
        Checks.eq("link(0, 4) of a new link", x.link(0, 4), 0);
        Checks.eq("total(6)", x.total(6), 124);
        fill(x);
        Checks.step(x, "removeLink with 60 steps", STATE, 3, () -> x.removeLink(0));
    }

    private static void addItem() {
        Checks.at("promise 9");
        EnvelopePlanner x = new EnvelopePlanner();
        Checks.eq("addItem(0, 0, 1, 1)", x.addItem(0, 0, 1, 1), 0);
        Checks.step(x, "addItem(1, 0, 1, 1)", INDEX, 1, () -> x.addItem(1, 0, 1, 1));
        Checks.step(x, "addItem(1, -1, 0, 0)", INDEX, 1, () -> x.addItem(1, -1, 0, 0));
        Checks.step(x, "addItem(0, 1, 1, 1)", ARGUMENT, 2, () -> x.addItem(0, 1, 1, 1));
        Checks.step(x, "addItem(0, -1, 1, 1)", ARGUMENT, 2, () -> x.addItem(0, -1, 1, 1));
        Checks.step(x, "addItem(2, 0, 1, 1)", ARGUMENT, 2, () -> x.addItem(2, 0, 1, 1));
        Checks.step(x, "addItem(2, 9, 1, 1)", ARGUMENT, 2, () -> x.addItem(2, 9, 1, 1));
        Checks.step(x, "addItem(-1, 0, 1, 1)", ARGUMENT, 2, () -> x.addItem(-1, 0, 1, 1));
        x.addEnvelope(-1, 0);
        x.addEnvelope(-1, 0);
        x.advance(5);
        Checks.eq("addItem(1, 1, 1000000, 60)", x.addItem(1, 1, 1000000, 60), 1);
        int[] due = {1, 1, 1000000, 60, 65, 0};
        for (int what = 0; what <= 5; what++) {
            Checks.eq("item(1, " + what + ")", x.item(1, what), due[what]);
        }
        Checks.step(x, "addItem(0, 1, 1, 1)", ARGUMENT, 2, () -> x.addItem(0, 1, 1, 1));
        Checks.step(x, "addItem(1, 2, 1, 1)", INDEX, 1, () -> x.addItem(1, 2, 1, 1));
        Checks.step(x, "addItem(1, 0, 0, 1)", ARGUMENT, 2, () -> x.addItem(1, 0, 0, 1));
        Checks.step(x, "addItem(1, 0, 1000001, 1)", ARGUMENT, 2, () -> x.addItem(1, 0, 1000001, 1));
        Checks.step(x, "addItem(1, 0, 1, 0)", ARGUMENT, 2, () -> x.addItem(1, 0, 1, 0));
        Checks.step(x, "addItem(1, 0, 1, 61)", ARGUMENT, 2, () -> x.addItem(1, 0, 1, 61));
        for (int i = 2; i < 8; i++) {
            Checks.eq("addItem(0, 0, 5, 5)", x.addItem(0, 0, 5, 5), i);
        }
        Checks.step(x, "the 9th addItem", STATE, 3, () -> x.addItem(0, 0, 5, 5));
        Checks.step(x, "the 9th addItem(0, 0, 5, 0)", ARGUMENT, 2, () -> x.addItem(0, 0, 5, 0));
        EnvelopePlanner y = fill(new EnvelopePlanner());
        Checks.step(y, "addItem with 60 steps", STATE, 3, () -> y.addItem(0, 0, 5, 5));
    }

    private static void removeItem() {
        Checks.at("promise 10");
        EnvelopePlanner x = withEnvelopes(-1);
        x.addItem(0, 0, 10, 4);
        x.addItem(1, 0, 900, 3);
        x.addItem(0, 0, 30, 7);
        x.advance(3);
        Checks.step(x, "removeItem(3)", INDEX, 1, () -> x.removeItem(3));
        Checks.step(x, "removeItem(-1)", INDEX, 1, () -> x.removeItem(-1));
        Checks.eq("removeItem(0)", x.removeItem(0), 2);
        int[] due = {1, 0, 900, 3, 6, 1};
        for (int what = 0; what <= 5; what++) {
            Checks.eq("item(0, " + what + ")", x.item(0, what), due[what]);
        }
        Checks.eq("item(1, 2)", x.item(1, 2), 30);
        Checks.eq("item(1, 4)", x.item(1, 4), 7);
        Checks.eq("removeItem(0)", x.removeItem(0), 1);
        Checks.eq("total(4)", x.total(4), 1);
        x.addEnvelope(-1, 0);
        x.addItem(1, 1, 800, 2);
        x.advance(2);
        Checks.eq("item(1, 5)", x.item(1, 5), 1);
        Checks.eq("removeItem(0)", x.removeItem(0), 1);
        Checks.eq("item(0, 1)", x.item(0, 1), 1);
        Checks.eq("item(0, 5)", x.item(0, 5), 1);
        Checks.eq("addItem(1, 0, 800, 1)", x.addItem(1, 0, 800, 1), 1);
        x.advance(1);
        Checks.eq("item(1, 5)", x.item(1, 5), 1);
        x.removeItem(1);
        Checks.eq("addItem(1, 0, 1, 1)", x.addItem(1, 0, 1, 1), 1);
        Checks.eq("item(1, 5)", x.item(1, 5), 0);
        Checks.eq("removeItem(1)", x.removeItem(1), 1);
        fill(x);
        Checks.step(x, "removeItem with 60 steps", STATE, 3, () -> x.removeItem(0));
    }

    private static void receiveByFixedAndParts() {
        Checks.at("promise 11");
        EnvelopePlanner x = withEnvelopes(-1, 50, -1, -1);
        Checks.eq("receive(1)", x.receive(1), 1);
        x.addRule(0, 0, 100);
        x.addRule(1, 1, 33);
        x.addRule(2, 2, 50);
        // 999: 100 fixed, 33 % of 999 is 329, of which 50 fit, half of 849 is 424
        Checks.eq("receive(999)", x.receive(999), 425);
        balances(x, 426, 100, 50, 424, 0);
        // 60: all of it is fixed
        Checks.eq("receive(60)", x.receive(60), 0);
        balances(x, 426, 160, 50, 424, 0);
        x.addRule(1, 3, 100);
        // 1000: 100 fixed, 330 do not fit, half of 900 is 450, and of 1000 only 450 are left
        Checks.eq("receive(1000)", x.receive(1000), 0);
        balances(x, 426, 260, 50, 874, 450);
        Checks.eq("total(2)", x.total(2), 2060);
        Checks.eq("receive(1000000)", new EnvelopePlanner().receive(1000000), 1000000);
    }

    private static void receiveByFill() {
        Checks.at("promise 11, fill");
        EnvelopePlanner x = withEnvelopes(-1, 300, 0);
        x.addRule(3, 0, 0);
        x.addRule(3, 2, 0);
        x.addRule(3, 1, 0);
        Checks.eq("receive(200)", x.receive(200), 0);
        balances(x, 0, 0, 200, 0);
        Checks.eq("receive(200)", x.receive(200), 100);
        balances(x, 100, 0, 300, 0);
        x.setCap(1, 250);
        Checks.eq("receive(7) above the cap", x.receive(7), 7);
        balances(x, 107, 0, 300, 0);
        EnvelopePlanner y = withEnvelopes(40);
        y.addRule(3, 0, 0);
        Checks.eq("receive(100)", y.receive(100), 60);
        balances(y, 60, 40);
    }

    private static void receiveByShares() {
        Checks.at("promise 11, shares");
        EnvelopePlanner x = withEnvelopes(-1, -1, 10, -1);
        x.addRule(4, 0, 1);
        x.addRule(4, 1, 1);
        x.addRule(4, 2, 1);
        // 100: 33 each, and the cent that remains to the first one; 10 of 33 fit into the last one
        Checks.eq("receive(100)", x.receive(100), 23);
        balances(x, 23, 34, 33, 10, 0);
        // 101: 33 each and two cents; the full envelope takes nothing
        Checks.eq("receive(101)", x.receive(101), 33);
        balances(x, 56, 68, 67, 10, 0);
        // a rule between them parts the shares: half of 11 is 5 and a cent, then 5 are left for 3 and 99
        EnvelopePlanner y = withEnvelopes(-1, -1, -1);
        y.addRule(4, 0, 2);
        y.addRule(4, 1, 2);
        y.addRule(0, 2, 1);
        y.addRule(4, 2, 3);
        Checks.eq("receive(11)", y.receive(11), 0);
        balances(y, 0, 6, 5, 0);
        y.setCap(0, 0);
        // 100: 50 do not fit, 50 fit, 1 is fixed, and all of 49 goes to the single share
        Checks.eq("receive(100)", y.receive(100), 0);
        balances(y, 0, 6, 55, 50);
        // the full first envelope still gets the cent, which is left then
        EnvelopePlanner z = withEnvelopes(0, -1);
        z.addRule(4, 0, 1);
        z.addRule(4, 1, 1);
        Checks.eq("receive(7)", z.receive(7), 4);
        balances(z, 4, 0, 3);
        // each share is put by itself, also into the same envelope
        EnvelopePlanner w = withEnvelopes(6, -1);
        w.addRule(4, 0, 1);
        w.addRule(4, 0, 2);
        w.addRule(4, 1, 1);
        Checks.eq("receive(10)", w.receive(10), 2);
        balances(w, 2, 6, 2);
        // a single share takes all that is left
        EnvelopePlanner u = withEnvelopes(-1);
        u.addRule(4, 0, 1);
        Checks.eq("receive(9)", u.receive(9), 0);
        balances(u, 0, 9);
        // a share by large numbers keeps its cents
        EnvelopePlanner v = withEnvelopes(-1, -1);
        v.addRule(4, 0, 99);
        v.addRule(4, 1, 98);
        Checks.eq("receive(1000000)", v.receive(1000000), 0);
        balances(v, 0, 502539, 497461);
    }

    private static void receiveRefused() {
        Checks.at("promise 11, refused");
        EnvelopePlanner x = new EnvelopePlanner();
        Checks.step(x, "receive(0)", ARGUMENT, 2, () -> x.receive(0));
        Checks.step(x, "receive(-5)", ARGUMENT, 2, () -> x.receive(-5));
        Checks.step(x, "receive(1000001)", ARGUMENT, 2, () -> x.receive(1000001));
        fill(x);
        Checks.step(x, "receive with 60 steps", STATE, 3, () -> x.receive(5));
        Checks.step(x, "receive(0) with 60 steps", ARGUMENT, 2, () -> x.receive(0));
    }

    private static void spend() {
        Checks.at("promise 12");
        EnvelopePlanner x = withEnvelopes(-1, -1);
        x.addRule(1, 0, 60);
        x.receive(1000);
        balances(x, 400, 600, 0);
        Checks.eq("spend(0, 200)", x.spend(0, 200), 0);
        balances(x, 400, 400, 0);
        Checks.eq("spend(0, 500)", x.spend(0, 500), 100);
        balances(x, 300, 0, 0);
        Checks.step(x, "spend(0, 301)", STATE, 4, () -> x.spend(0, 301));
        Checks.eq("spend(1, 300)", x.spend(1, 300), 300);
        balances(x, 0, 0, 0);
        Checks.eq("envelope(0, 4)", x.envelope(0, 4), 600);
        Checks.eq("envelope(1, 4)", x.envelope(1, 4), 0);
        Checks.eq("total(3)", x.total(3), 1000);
        Checks.step(x, "spend(1, 1)", STATE, 4, () -> x.spend(1, 1));
        Checks.step(x, "spend(2, 1)", INDEX, 1, () -> x.spend(2, 1));
        Checks.step(x, "spend(-1, 0)", INDEX, 1, () -> x.spend(-1, 0));
        Checks.step(x, "spend(0, 0)", ARGUMENT, 2, () -> x.spend(0, 0));
        Checks.step(x, "spend(0, 1000001)", ARGUMENT, 2, () -> x.spend(0, 1000001));
        fill(x);
        Checks.step(x, "spend(0, 5) with 60 steps and no money", STATE, 3, () -> x.spend(0, 5));
        Checks.step(x, "spend(2, 5) with 60 steps", INDEX, 1, () -> x.spend(2, 5));
        Checks.step(x, "spend(0, 0) with 60 steps", ARGUMENT, 2, () -> x.spend(0, 0));
    }

    private static void spendSettles() {
        Checks.at("promise 12, settling");
        EnvelopePlanner x = withEnvelopes(-1, -1);
        x.addRule(0, 0, 500);
        x.receive(500);
        x.addLink(0, 1, 100, 50);
        balances(x, 0, 500, 0);
        Checks.eq("spend(0, 100)", x.spend(0, 100), 0);
        balances(x, 0, 250, 150);
    }

    private static void move() {
        Checks.at("promise 13");
        EnvelopePlanner x = withEnvelopes(-1, 100);
        x.receive(1000);
        Checks.eq("move(-1, 0, 600)", x.move(-1, 0, 600), 600);
        Checks.eq("move(0, 1, 250)", x.move(0, 1, 250), 100);
        balances(x, 400, 500, 100);
        Checks.eq("move(0, 1, 1)", x.move(0, 1, 1), 0);
        Checks.eq("move(-1, 1, 400)", x.move(-1, 1, 400), 0);
        Checks.eq("move(0, -1, 500)", x.move(0, -1, 500), 500);
        Checks.eq("move(1, -1, 40)", x.move(1, -1, 40), 40);
        Checks.eq("move(-1, 1, 100)", x.move(-1, 1, 100), 40);
        balances(x, 900, 0, 100);
        Checks.eq("branch(0, 1)", x.branch(0, 1), 10);
        Checks.step(x, "move(0, 1, 1) from nothing", STATE, 4, () -> x.move(0, 1, 1));
        Checks.step(x, "move(1, 0, 101)", STATE, 4, () -> x.move(1, 0, 101));
        Checks.step(x, "move(-1, 0, 901)", STATE, 4, () -> x.move(-1, 0, 901));
        Checks.step(x, "move(-2, 0, 1)", INDEX, 1, () -> x.move(-2, 0, 1));
        Checks.step(x, "move(0, -2, 1)", INDEX, 1, () -> x.move(0, -2, 1));
        Checks.step(x, "move(2, 2, 0)", INDEX, 1, () -> x.move(2, 2, 0));
        Checks.step(x, "move(-1, 2, 0)", INDEX, 1, () -> x.move(-1, 2, 0));
        Checks.step(x, "move(1, 1, 1)", ARGUMENT, 2, () -> x.move(1, 1, 1));
        Checks.step(x, "move(-1, -1, 1)", ARGUMENT, 2, () -> x.move(-1, -1, 1));
        Checks.step(x, "move(1, 0, 0)", ARGUMENT, 2, () -> x.move(1, 0, 0));
        Checks.step(x, "move(1, 0, 1000001)", ARGUMENT, 2, () -> x.move(1, 0, 1000001));
        Checks.eq("total(2)", x.total(2), 1000);
        Checks.eq("total(3)", x.total(3), 0);
        fill(x);
        Checks.step(x, "move(0, 1, 1) with 60 steps", STATE, 3, () -> x.move(0, 1, 1));
        Checks.step(x, "move(1, 1, 1) with 60 steps", ARGUMENT, 2, () -> x.move(1, 1, 1));
        Checks.step(x, "move(3, 1, 1) with 60 steps", INDEX, 1, () -> x.move(3, 1, 1));
    }

    private static void moveSettles() {
        Checks.at("promise 13, settling");
        EnvelopePlanner x = withEnvelopes(-1, -1, 0);
        x.receive(1000);
        x.addLink(0, 1, 0, 50);
        Checks.eq("move(-1, 0, 1000)", x.move(-1, 0, 1000), 1000);
        balances(x, 0, 500, 500, 0);
        // a move of 0 settles, too
        Checks.eq("move(0, 2, 100)", x.move(0, 2, 100), 0);
        balances(x, 0, 250, 750, 0);
    }

    private static void settling() {
        Checks.at("settling");
        EnvelopePlanner x = withEnvelopes(-1, -1, -1);
        x.receive(1000);
        // the first link passes on only after the second one has given it something
        x.addLink(1, 2, 0, 100);
        x.addLink(0, 1, 100, 50);
        x.move(-1, 0, 400);
        balances(x, 600, 250, 0, 150);
        Checks.eq("link(0, 4)", x.link(0, 4), 150);
        Checks.eq("link(1, 4)", x.link(1, 4), 150);
        Checks.eq("total(6)", x.total(6), 300);
        // a link that has passed on does so no more in this settling
        EnvelopePlanner y = withEnvelopes(-1, -1);
        y.receive(1000);
        y.addLink(0, 1, 0, 100);
        y.addLink(1, 0, 0, 100);
        y.move(-1, 0, 800);
        balances(y, 200, 800, 0);
        Checks.eq("total(6)", y.total(6), 1600);
        // what does not fit stays, and half of a cent is not passed on
        EnvelopePlanner z = withEnvelopes(-1, 30, -1);
        z.receive(1000);
        z.addLink(0, 1, 100, 50);
        z.addLink(0, 2, 169, 50);
        z.move(-1, 0, 200);
        balances(z, 800, 170, 30, 0);
        Checks.eq("link(0, 4)", z.link(0, 4), 30);
        Checks.eq("link(1, 4)", z.link(1, 4), 0);
        // a balance of just the threshold passes nothing on; above the cap an envelope passes on
        EnvelopePlanner w = withEnvelopes(-1, -1);
        w.receive(1000);
        w.addLink(0, 1, 300, 100);
        w.move(-1, 0, 300);
        balances(w, 700, 300, 0);
        w.setCap(0, 10);
        w.removeLink(0);
        w.addLink(0, 1, 10, 100);
        balances(w, 700, 300, 0);
        w.receive(1);
        balances(w, 701, 10, 290);
        // a link tries again in a later round when it could not pass on before
        EnvelopePlanner v = withEnvelopes(-1, 50, -1);
        v.receive(1000);
        v.move(-1, 1, 50);
        v.addLink(0, 1, 0, 100);
        v.addLink(1, 2, 20, 100);
        v.move(-1, 0, 40);
        balances(v, 910, 10, 50, 30);
        // a single cent is passed on, and uses the link up
        EnvelopePlanner t = withEnvelopes(-1, -1, -1);
        t.receive(12);
        t.addLink(1, 2, 0, 100);
        t.addLink(0, 1, 10, 50);
        t.addLink(0, 1, 10, 100);
        t.move(-1, 0, 12);
        balances(t, 0, 10, 0, 2);
        Checks.eq("link(1, 4)", t.link(1, 4), 1);
        Checks.eq("link(2, 4)", t.link(2, 4), 1);
        // settling follows no step of the kinds 0 to 8
        EnvelopePlanner u = withEnvelopes(-1, -1);
        u.addRule(0, 0, 100);
        u.receive(100);
        u.addLink(0, 1, 0, 100);
        u.addEnvelope(-1, 0);
        u.setCap(0, 500);
        u.setRollover(0, 1);
        u.addRule(0, 0, 5);
        u.removeRule(1);
        u.addItem(0, 0, 5, 5);
        u.removeItem(0);
        u.addLink(1, 0, 900, 1);
        u.removeLink(1);
        balances(u, 0, 100, 0);
        // and no day without an item
        u.advance(29);
        balances(u, 0, 100, 0);
    }

    private static void advanceItems() {
        Checks.at("promise 14");
        EnvelopePlanner x = withEnvelopes(-1, -1);
        x.addRule(1, 0, 50);
        x.addItem(1, 0, 40, 2);
        x.addItem(0, 0, 100, 3);
        // day 2: missed; day 3: 50 and 50; day 4: 40 from the envelope; day 6: 30 from the pool, then income
        Checks.eq("advance(1)", x.advance(1), 0);
        Checks.eq("advance(1)", x.advance(1), 1);
        Checks.eq("item(0, 4)", x.item(0, 4), 4);
        Checks.eq("item(0, 5)", x.item(0, 5), 1);
        Checks.eq("advance(2)", x.advance(2), 0);
        balances(x, 50, 10, 0);
        Checks.eq("advance(2)", x.advance(2), 0);
        balances(x, 70, 50, 0);
        Checks.eq("envelope(0, 4)", x.envelope(0, 4), 50);
        Checks.eq("total(2)", x.total(2), 200);
        Checks.eq("total(3)", x.total(3), 80);
        Checks.eq("total(4)", x.total(4), 1);
        Checks.eq("total(5)", x.total(5), 6);
        Checks.eq("item(1, 4)", x.item(1, 4), 9);
        // items run in ascending order: an expense ahead of the income of its day is missed
        EnvelopePlanner y = withEnvelopes(-1);
        y.addItem(1, 0, 10, 60);
        y.addItem(0, 0, 10, 60);
        y.addItem(1, 0, 10, 60);
        Checks.eq("advance(60)", y.advance(60), 1);
        Checks.eq("item(0, 5)", y.item(0, 5), 1);
        Checks.eq("item(2, 5)", y.item(2, 5), 0);
        Checks.eq("item(0, 4)", y.item(0, 4), 120);
        // settling follows each item that was not missed, and none that was
        EnvelopePlanner z = withEnvelopes(-1, -1);
        z.addRule(0, 0, 800);
        z.receive(800);
        z.removeRule(0);
        z.addLink(0, 1, 0, 50);
        z.addItem(0, 0, 10, 1);
        z.addItem(1, 0, 1000000, 1);
        z.addItem(1, 1, 100, 1);
        Checks.eq("advance(1)", z.advance(1), 1);
        balances(z, 10, 200, 500);
    }

    private static void advanceRollsOver() {
        Checks.at("promise 14, rolling over");
        EnvelopePlanner x = new EnvelopePlanner();
        x.addEnvelope(-1, 0);
        x.addEnvelope(-1, 1);
        x.addEnvelope(-1, 2);
        x.addRule(0, 0, 101);
        x.addRule(0, 1, 101);
        x.addRule(0, 2, 101);
        x.receive(303);
        x.advance(29);
        balances(x, 0, 101, 101, 101);
        x.advance(1);
        balances(x, 151, 101, 0, 51);
        Checks.eq("total(7)", x.total(7), 151);
        x.advance(60);
        balances(x, 151 + 25 + 13, 101, 0, 13);
        Checks.eq("total(7)", x.total(7), 151 + 25 + 13);
        Checks.eq("total(3)", x.total(3), 0);
        // items go ahead of rolling over, and settling follows it
        EnvelopePlanner y = new EnvelopePlanner();
        y.addEnvelope(-1, 1);
        y.addEnvelope(-1, 0);
        y.addEnvelope(-1, 0);
        y.addRule(0, 1, 80);
        y.addRule(0, 0, 20);
        y.addItem(0, 0, 100, 30);
        y.addItem(1, 0, 15, 30);
        y.addLink(1, 2, 0, 50);
        Checks.eq("advance(30)", y.advance(30), 0);
        // 80 are halved behind the income, the expense and the rolling over
        balances(y, 5, 0, 10, 70);
        Checks.eq("total(7)", y.total(7), 5);
        // all are released before the one settling that follows
        EnvelopePlanner z = new EnvelopePlanner();
        z.addEnvelope(-1, 1);
        z.addEnvelope(-1, 0);
        z.addRule(0, 0, 50);
        z.receive(50);
        z.addLink(0, 1, 0, 100);
        z.advance(30);
        balances(z, 50, 0, 0);
        // settling follows also when nothing is released
        EnvelopePlanner w = withEnvelopes(-1, -1);
        w.addRule(0, 0, 64);
        w.receive(64);
        w.addLink(0, 1, 0, 50);
        w.advance(60);
        balances(w, 0, 16, 48);
    }

    private static void advanceRefused() {
        Checks.at("promise 14, refused");
        EnvelopePlanner x = new EnvelopePlanner();
        Checks.step(x, "advance(0)", ARGUMENT, 2, () -> x.advance(0));
        Checks.step(x, "advance(-1)", ARGUMENT, 2, () -> x.advance(-1));
        Checks.step(x, "advance(61)", ARGUMENT, 2, () -> x.advance(61));
        fill(x);
        Checks.eq("branch(0, 1)", x.branch(0, 1), 60);
        Checks.step(x, "advance with 60 steps", STATE, 3, () -> x.advance(1));
        Checks.step(x, "advance(61) with 60 steps", ARGUMENT, 2, () -> x.advance(61));
    }

    private static void reasonsStayUntilCleared() {
        Checks.at("refusals");
        EnvelopePlanner x = withEnvelopes(-1);
        try {
            x.spend(0, 5);
        } catch (IllegalStateException due) {
            x.receive(5);
        }
        try {
            x.fork();
            x.total(99);
        } catch (IllegalArgumentException due) {
            x.total(0);
        }
        Checks.eq("clearReason()", x.clearReason(), 4);
        Checks.eq("clearReason()", x.clearReason(), 0);
    }
}
