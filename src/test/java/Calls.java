/** The calls of the face by their names, for the tests that keep calls as data. */
final class Calls {
    static final String[] NAMES = {"addEnvelope", "setCap", "setRollover", "addRule", "removeRule", "addLink",
        "removeLink", "addItem", "removeItem", "receive", "spend", "move", "advance", "envelope", "rule", "split",
        "link", "item", "total", "savedShare", "forecast", "daysUntil", "spare", "fork", "select", "discard", "merge",
        "conflict", "branch", "difference", "step", "undo", "dropStep", "clearReason", "feed", "readPlan", "save",
        "restore"};
    static final int FIRST_QUESTION = 13;

    private Calls() {
    }

    static int numberOf(String call) {
        for (int n = 0; n < NAMES.length; n++) {
            if (NAMES[n].equals(call)) {
                return n;
            }
        }
        throw new IllegalArgumentException("no call is named " + call);
    }

    static boolean isStep(String call) {
        return numberOf(call) < FIRST_QUESTION;
    }

    static String ofPlanner(EnvelopePlanner x, String call, int a, int b, int c, int d) {
        return switch (call) {
            case "addEnvelope" -> "" + x.addEnvelope(a, b);
            case "setCap" -> "" + x.setCap(a, b);
            case "setRollover" -> "" + x.setRollover(a, b);
            case "addRule" -> "" + x.addRule(a, b, c);
            case "removeRule" -> "" + x.removeRule(a);
            case "addLink" -> "" + x.addLink(a, b, c, d);
            case "removeLink" -> "" + x.removeLink(a);
            case "addItem" -> "" + x.addItem(a, b, c, d);
            case "removeItem" -> "" + x.removeItem(a);
            case "receive" -> "" + x.receive(a);
            case "spend" -> "" + x.spend(a, b);
            case "move" -> "" + x.move(a, b, c);
            case "advance" -> "" + x.advance(a);
            case "envelope" -> "" + x.envelope(a, b);
            case "rule" -> "" + x.rule(a, b);
            case "split" -> "" + x.split(a, b);
            case "link" -> "" + x.link(a, b);
            case "item" -> "" + x.item(a, b);
            case "total" -> "" + x.total(a);
            case "savedShare" -> "" + x.savedShare();
            case "forecast" -> "" + x.forecast(a, b);
            case "daysUntil" -> "" + x.daysUntil(a, b);
            case "spare" -> "" + x.spare(a, b);
            case "fork" -> "" + x.fork();
            case "select" -> "" + x.select(a);
            case "discard" -> "" + x.discard(a);
            case "merge" -> "" + x.merge(a);
            case "conflict" -> "" + x.conflict(a == 1);
            case "branch" -> "" + x.branch(a, b);
            case "difference" -> "" + x.difference(a, b, c);
            case "step" -> "" + x.step(a, b);
            case "undo" -> "" + x.undo();
            case "dropStep" -> "" + x.dropStep(a);
            case "clearReason" -> "" + x.clearReason();
            case "feed" -> "" + x.feed((char) a);
            case "readPlan" -> "" + x.readPlan();
            case "save" -> "" + x.save();
            case "restore" -> "" + x.restore();
            default -> throw new IllegalArgumentException("no call is named " + call);
        };
    }

    static String ofModel(SlowModel y, String call, int a, int b, int c, int d) {
        int kind = numberOf(call);
        if (kind < FIRST_QUESTION) {
            return "" + y.make(kind, a, b, c, d);
        }
        return switch (call) {
            case "envelope" -> "" + y.envelope(a, b);
            case "rule" -> "" + y.rule(a, b);
            case "split" -> "" + y.split(a, b);
            case "link" -> "" + y.link(a, b);
            case "item" -> "" + y.item(a, b);
            case "total" -> "" + y.total(a);
            case "savedShare" -> "" + y.savedShare();
            case "forecast" -> "" + y.forecast(a, b);
            case "daysUntil" -> "" + y.daysUntil(a, b);
            case "spare" -> "" + y.spare(a, b);
            case "fork" -> "" + y.fork();
            case "select" -> "" + y.select(a);
            case "discard" -> "" + y.discard(a);
            case "merge" -> "" + y.merge(a);
            case "conflict" -> "" + y.conflict(a == 1);
            case "branch" -> "" + y.branch(a, b);
            case "difference" -> "" + y.difference(a, b, c);
            case "step" -> "" + y.step(a, b);
            case "undo" -> "" + y.undo();
            case "dropStep" -> "" + y.dropStep(a);
            case "clearReason" -> "" + y.clearReason();
            case "feed" -> "" + y.feed((char) a);
            case "readPlan" -> "" + y.readPlan();
            case "save" -> "" + y.save();
            default -> "" + y.restore();
        };
    }
}
