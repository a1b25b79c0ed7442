/** Promises 15 to 24: the present plan, and forecasts. */
public final class QuestionsTest {
    private static final Class<? extends Exception> INDEX = IndexOutOfBoundsException.class;
    private static final Class<? extends Exception> ARGUMENT = IllegalArgumentException.class;
    private static final Class<? extends Exception> NONE = java.util.NoSuchElementException.class;

    public static void main(String[] args) {
        envelope();
        rule();
        split();
        link();
        item();
        total();
        savedShare();
        forecast();
        daysUntil();
        spare();
        spareByHalving();
        Checks.finish();
    }

    private static void envelope() {
        Checks.at("promise 15");
        EnvelopePlanner x = new EnvelopePlanner();
        x.addEnvelope(500, 2);
        x.addEnvelope(-1, 1);
        x.addRule(0, 0, 200);
        x.receive(230);
        x.spend(0, 30);
        long[][] due = {{170, 500, 2, 330, 30}, {0, -1, 1, -1, 0}};
        for (int e = 0; e < 2; e++) {
            for (int what = 0; what <= 4; what++) {
                Checks.eq("envelope(" + e + ", " + what + ")", x.envelope(e, what), due[e][what]);
            }
        }
        x.setCap(0, 170);
        Checks.eq("envelope(0, 3) when full", x.envelope(0, 3), 0);
        x.setCap(0, 100);
        Checks.eq("envelope(0, 3) above the cap", x.envelope(0, 3), 0);
        // the part from the pool does not count as spent from the balance
        x.spend(0, 200);
        Checks.eq("envelope(0, 4)", x.envelope(0, 4), 200);
        Checks.eq("total(3)", x.total(3), 230);
        Checks.refused(x, "envelope(2, 0)", INDEX, () -> x.envelope(2, 0));
        Checks.refused(x, "envelope(-1, 9)", INDEX, () -> x.envelope(-1, 9));
        Checks.refused(x, "envelope(0, 5)", ARGUMENT, () -> x.envelope(0, 5));
        Checks.refused(x, "envelope(0, -1)", ARGUMENT, () -> x.envelope(0, -1));
    }

    private static void rule() {
        Checks.at("promise 16");
        EnvelopePlanner x = new EnvelopePlanner();
        x.addEnvelope(-1, 0);
        x.addEnvelope(-1, 0);
        x.addRule(4, 1, 99);
        Checks.eq("rule(0, 0)", x.rule(0, 0), 4);
        Checks.eq("rule(0, 1)", x.rule(0, 1), 1);
        Checks.eq("rule(0, 2)", x.rule(0, 2), 99);
        Checks.refused(x, "rule(1, 0)", INDEX, () -> x.rule(1, 0));
        Checks.refused(x, "rule(-1, 3)", INDEX, () -> x.rule(-1, 3));
        Checks.refused(x, "rule(0, 3)", ARGUMENT, () -> x.rule(0, 3));
        Checks.refused(x, "rule(0, -1)", ARGUMENT, () -> x.rule(0, -1));
    }

    private static void split() {
        Checks.at("promise 17");
        EnvelopePlanner x = new EnvelopePlanner();
        Checks.eq("split(-1, 1000000)", x.split(-1, 1000000), 1000000);
        x.addEnvelope(100, 0);
        x.addEnvelope(-1, 0);
        x.addRule(0, 0, 60);
        x.addRule(4, 0, 1);
        x.addRule(4, 1, 2);
        x.addLink(0, 1, 0, 100);
        x.addLink(1, 0, 0, 100);
        String before = Checks.stateOf(x);
        // 60 fixed, then 80 and 160, of which 40 fit into the first one; ahead of settling
        Checks.eq("split(0, 300)", x.split(0, 300), 100);
        Checks.eq("split(1, 300)", x.split(1, 300), 160);
        Checks.eq("split(-1, 300)", x.split(-1, 300), 40);
        Checks.eq("split(0, 1)", x.split(0, 1), 1);
        Checks.same("the state behind split", Checks.stateOf(x), before);
        x.removeLink(0);
        x.removeLink(0);
        x.receive(300);
        // with the present balances
        Checks.eq("split(0, 300)", x.split(0, 300), 0);
        Checks.eq("split(1, 300)", x.split(1, 300), 200);
        Checks.eq("split(-1, 300)", x.split(-1, 300), 100);
        Checks.refused(x, "split(2, 5)", INDEX, () -> x.split(2, 5));
        Checks.refused(x, "split(-2, 0)", INDEX, () -> x.split(-2, 0));
        Checks.refused(x, "split(0, 0)", ARGUMENT, () -> x.split(0, 0));
        Checks.refused(x, "split(-1, 1000001)", ARGUMENT, () -> x.split(-1, 1000001));
    }

    private static void link() {
        Checks.at("promise 18");
        EnvelopePlanner x = new EnvelopePlanner();
        x.addEnvelope(-1, 0);
        x.addEnvelope(40, 0);
        x.addLink(0, 1, 7, 30);
        x.receive(500);
        x.move(-1, 0, 100);
        x.move(-1, 0, 100);
        long[] due = {0, 1, 7, 30, 40};
        for (int what = 0; what <= 4; what++) {
            Checks.eq("link(0, " + what + ")", x.link(0, what), due[what]);
        }
        Checks.refused(x, "link(1, 0)", INDEX, () -> x.link(1, 0));
        Checks.refused(x, "link(-1, 5)", INDEX, () -> x.link(-1, 5));
        Checks.refused(x, "link(0, 5)", ARGUMENT, () -> x.link(0, 5));
        Checks.refused(x, "link(0, -1)", ARGUMENT, () -> x.link(0, -1));
    }

    private static void item() {
        Checks.at("promise 19");
        EnvelopePlanner x = new EnvelopePlanner();
        x.addEnvelope(-1, 0);
        x.addEnvelope(-1, 0);
        x.advance(2);
        x.addItem(1, 1, 33, 4);
        x.advance(13);
        int[] due = {1, 1, 33, 4, 18, 3};
        for (int what = 0; what <= 5; what++) {
            Checks.eq("item(0, " + what + ")", x.item(0, what), due[what]);
        }
        Checks.refused(x, "item(1, 0)", INDEX, () -> x.item(1, 0));
        Checks.refused(x, "item(-1, 6)", INDEX, () -> x.item(-1, 6));
        Checks.refused(x, "item(0, 6)", ARGUMENT, () -> x.item(0, 6));
        Checks.refused(x, "item(0, -1)", ARGUMENT, () -> x.item(0, -1));
    }

    private static void total() {
        Checks.at("promise 20");
        EnvelopePlanner x = new EnvelopePlanner();
        x.addEnvelope(-1, 1);
        x.addEnvelope(-1, 0);
        x.addEnvelope(-1, 0);
        x.addRule(0, 0, 100);
        x.addRule(0, 1, 200);
        x.addLink(1, 2, 150, 100);
        x.receive(1000);
        x.spend(0, 30);
        x.addItem(1, 2, 500000, 30);
        x.addItem(0, 0, 5, 29);
        x.addItem(0, 0, 5, 60);
        x.advance(30);
        // the income of day 29 goes to the first envelope, which releases 75 on day 30
        long[] due = {775, 200, 1005, 30, 1, 30, 50, 75, 3, 2, 1, 3};
        for (int what = 0; what <= 11; what++) {
            Checks.eq("total(" + what + ")", x.total(what), due[what]);
        }
        x.removeLink(0);
        x.removeItem(0);
        x.removeRule(0);
        Checks.eq("total(4)", x.total(4), 1);
        Checks.eq("total(6)", x.total(6), 50);
        Checks.eq("total(9)", x.total(9), 1);
        Checks.eq("total(10)", x.total(10), 0);
        Checks.eq("total(11)", x.total(11), 2);
        Checks.refused(x, "total(12)", ARGUMENT, () -> x.total(12));
        Checks.refused(x, "total(-1)", ARGUMENT, () -> x.total(-1));
    }

    private static void savedShare() {
        Checks.at("promise 21");
        EnvelopePlanner x = new EnvelopePlanner();
        x.addEnvelope(-1, 0);
        Checks.refused(x, "savedShare()", ArithmeticException.class, () -> (long) x.savedShare());
        x.receive(900);
        Checks.eq("savedShare()", x.savedShare(), 1.0);
        x.spend(0, 300);
        Checks.eq("savedShare()", x.savedShare(), 600.0 / 900.0);
        x.spend(0, 600);
        Checks.eq("savedShare()", x.savedShare(), 0.0);
    }

    private static EnvelopePlanner withPlans() {
        EnvelopePlanner x = new EnvelopePlanner();
        x.addEnvelope(-1, 2);
        x.addEnvelope(60, 0);
        x.addRule(1, 0, 50);
        x.receive(200);
        x.addItem(1, 1, 30, 4);
        x.addItem(0, 0, 100, 25);
        x.addLink(0, 1, 140, 100);
        return x;
    }

    private static void forecast() {
        Checks.at("promise 22");
        EnvelopePlanner x = withPlans();
        String before = Checks.stateOf(x);
        // days 4, 8 and 12 take 90 of the pool of 100, day 16 is missed, 20 and 24 too;
        // day 25: 50 to the first envelope, 10 of them on, and 50 to the pool; day 28 takes 10 and 20
        long[] in28 = {40, 140, 300, 120, 3, 28, 10, 0, 10, 16};
        for (int what = 0; what <= 9; what++) {
            Checks.eq("forecast(28, " + what + ")", x.forecast(28, what), in28[what]);
        }
        // day 30 releases 70
        Checks.eq("forecast(30, 0)", x.forecast(30, 0), 110);
        Checks.eq("forecast(30, 7)", x.forecast(30, 7), 70);
        Checks.eq("forecast(1, 8)", x.forecast(1, 8), 100);
        Checks.eq("forecast(15, 9)", x.forecast(15, 9), 0);
        Checks.eq("forecast(16, 9)", x.forecast(16, 9), 16);
        Checks.eq("forecast(200, 5)", x.forecast(200, 5), 200);
        Checks.same("the state behind forecast", Checks.stateOf(x), before);
        // days are counted from now, and totals since the beginning
        x.advance(14);
        Checks.eq("forecast(2, 9)", x.forecast(2, 9), 2);
        Checks.eq("forecast(2, 3)", x.forecast(2, 3), 90);
        x.advance(3);
        Checks.eq("forecast(2, 9)", x.forecast(2, 9), 0);
        Checks.eq("forecast(2, 4)", x.forecast(2, 4), 1);
        // the least pool is that of the ends of days, and not of now
        EnvelopePlanner y = new EnvelopePlanner();
        y.addItem(0, 0, 10, 1);
        Checks.eq("forecast(3, 8)", y.forecast(3, 8), 10);
        Checks.refused(x, "forecast(0, 0)", ARGUMENT, () -> x.forecast(0, 0));
        Checks.refused(x, "forecast(201, 0)", ARGUMENT, () -> x.forecast(201, 0));
        Checks.refused(x, "forecast(1, -1)", ARGUMENT, () -> x.forecast(1, -1));
        Checks.refused(x, "forecast(1, 10)", ARGUMENT, () -> x.forecast(1, 10));
    }

    private static void daysUntil() {
        Checks.at("promise 23");
        EnvelopePlanner x = new EnvelopePlanner();
        x.addEnvelope(-1, 0);
        x.addEnvelope(-1, 0);
        x.addRule(0, 0, 5);
        x.addItem(0, 0, 5, 10);
        String before = Checks.stateOf(x);
        Checks.eq("daysUntil(0, 0)", x.daysUntil(0, 0), 0);
        Checks.eq("daysUntil(0, 1)", x.daysUntil(0, 1), 10);
        Checks.eq("daysUntil(0, 5)", x.daysUntil(0, 5), 10);
        Checks.eq("daysUntil(0, 6)", x.daysUntil(0, 6), 20);
        Checks.eq("daysUntil(0, 100)", x.daysUntil(0, 100), 200);
        Checks.same("the state behind daysUntil", Checks.stateOf(x), before);
        Checks.refused(x, "daysUntil(0, 101)", NONE, () -> x.daysUntil(0, 101));
        Checks.refused(x, "daysUntil(1, 1)", NONE, () -> x.daysUntil(1, 1));
        Checks.refused(x, "daysUntil(0, 9000000)", NONE, () -> x.daysUntil(0, 9000000));
        Checks.refused(x, "daysUntil(2, -1)", INDEX, () -> x.daysUntil(2, -1));
        Checks.refused(x, "daysUntil(-1, 0)", INDEX, () -> x.daysUntil(-1, 0));
        Checks.refused(x, "daysUntil(0, -1)", ARGUMENT, () -> x.daysUntil(0, -1));
        Checks.refused(x, "daysUntil(0, 9000001)", ARGUMENT, () -> x.daysUntil(0, 9000001));
        // at the end of a day: what a later item of the day takes does not count
        x.addItem(1, 0, 5, 10);
        Checks.refused(x, "daysUntil(0, 5)", NONE, () -> x.daysUntil(0, 5));
        x.advance(60);
        x.removeItem(1);
        Checks.eq("daysUntil(0, 5)", x.daysUntil(0, 5), 10);
    }

    private static void spare() {
        Checks.at("promise 24");
        EnvelopePlanner x = new EnvelopePlanner();
        x.addEnvelope(-1, 0);
        x.addEnvelope(-1, 0);
        x.addRule(0, 0, 300);
        Checks.eq("spare(0, 60) of nothing", x.spare(0, 60), 0);
        x.receive(1000);
        Checks.eq("spare(0, 60)", x.spare(0, 60), 1000);
        Checks.eq("spare(1, 60)", x.spare(1, 60), 700);
        x.addItem(1, 1, 150, 10);
        String before = Checks.stateOf(x);
        Checks.eq("spare(0, 9)", x.spare(0, 9), 1000);
        Checks.eq("spare(0, 10)", x.spare(0, 10), 850);
        Checks.eq("spare(0, 40)", x.spare(0, 40), 400);
        Checks.eq("spare(1, 40)", x.spare(1, 40), 100);
        // an expense that is missed in any case leaves nothing to spare
        Checks.eq("spare(1, 50)", x.spare(1, 50), 0);
        Checks.same("the state behind spare", Checks.stateOf(x), before);
        Checks.refused(x, "spare(2, 0)", INDEX, () -> x.spare(2, 0));
        Checks.refused(x, "spare(-1, 5)", INDEX, () -> x.spare(-1, 5));
        Checks.refused(x, "spare(0, 0)", ARGUMENT, () -> x.spare(0, 0));
        Checks.refused(x, "spare(0, 61)", ARGUMENT, () -> x.spare(0, 61));
        for (int n = 0; n < 10; n++) {
            x.receive(1000000);
        }
        Checks.eq("spare(0, 60) of very much", x.spare(0, 60), 1000000);
    }

    private static void spareByHalving() {
        Checks.at("promise 24, halving");
        // settling behind the spending passes on to the envelope whose expense is paid
        EnvelopePlanner x = new EnvelopePlanner();
        x.addEnvelope(-1, 0);
        x.addEnvelope(-1, 0);
        x.addRule(0, 0, 1000000);
        for (int n = 0; n < 2; n++) {
            x.receive(1000000);
        }
        x.addLink(0, 1, 1000000, 100);
        x.addItem(1, 1, 400000, 1);
        Checks.eq("spare(0, 1)", x.spare(0, 1), 600000);
        // a link passes on once in a settling: what is left in 1 goes to 2 first, so that 0 cannot go on
        // through 1; with nothing left in 1 all of 0 comes to 2, where the expense is due
        Checks.eq("spare(1, 1) of 400000", withLaterSpare(400000).spare(1, 1), 550000);
        EnvelopePlanner y = withLaterSpare(600000);
        Checks.eq("spare(1, 1) of 600000", y.spare(1, 1), 0);
        y.spend(1, 600000);
        Checks.eq("forecast(1, 9)", y.forecast(1, 9), 0);
    }

    private static EnvelopePlanner withLaterSpare(int balance) {
        EnvelopePlanner y = new EnvelopePlanner();
        for (int e = 0; e < 3; e++) {
            y.addEnvelope(-1, 0);
        }
        y.receive(1000000);
        y.move(-1, 0, 1000000);
        y.receive(balance + 150000);
        y.move(-1, 1, balance);
        y.addLink(1, 2, 0, 100);
        y.addLink(0, 1, 0, 100);
        y.addItem(1, 2, 900000, 1);
        return y;
    }
}
