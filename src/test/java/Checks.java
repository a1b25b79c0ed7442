import java.util.function.LongSupplier;

/** What the tests share: checks that print what is wrong, and the state of a planner as a text. */
final class Checks {
    private static int done = 0;
    private static int wrong = 0;
    private static String place = "";

    private Checks() {
    }

    static void at(String newPlace) {
        place = newPlace;
    }

    static void eq(String call, long got, long want) {
        done++;
        if (got != want) {
            complain(call + " answered " + got + ", due is " + want);
        }
    }

    static void eq(String call, double got, double want) {
        done++;
        if (got != want) {
            complain(call + " answered " + got + ", due is " + want);
        }
    }

    static void same(String what, String got, String want) {
        done++;
        if (!got.equals(want)) {
            complain(what + " is " + got + ", due is " + want);
        }
    }

    /** The call throws just this exception, leaves the state as it was, and keeps no reason of its own. */
    static void refused(EnvelopePlanner x, String call, Class<? extends Exception> due, LongSupplier body) {
        step(x, call, due, 0, body);
    }

    /** The call throws just this exception, leaves the state as it was, and keeps the reason. */
    static void step(EnvelopePlanner x, String call, Class<? extends Exception> due, int reason, LongSupplier body) {
        x.clearReason();
        String before = stateOf(x);
        done++;
        try {
            complain(call + " answered " + body.getAsLong() + ", due is " + due.getSimpleName());
        } catch (RuntimeException thrown) {
            if (thrown.getClass() != due) {
                complain(call + " threw " + thrown + ", due is " + due.getSimpleName());
            }
        }
        eq("clearReason() behind " + call, x.clearReason(), reason);
        same("the state behind " + call, stateOf(x), before);
    }

    static void complain(String text) {
        wrong++;
        if (wrong <= 50) {
            System.out.println(place + ": " + text);
        }
    }

    static void finish() {
        System.out.println(done + " checks, " + wrong + " wrong");
        if (wrong != 0 || done == 0) {
            System.exit(1);
        }
    }

    static int feed(EnvelopePlanner x, String text) {
        int length = 0;
        for (int n = 0; n < text.length(); n++) {
            length = x.feed(text.charAt(n));
        }
        return length;
    }

    static int read(EnvelopePlanner x, String text) {
        feed(x, text);
        return x.readPlan();
    }

    /** All that can be asked of a planner without changing it, but for the reason and the input. */
    static String stateOf(EnvelopePlanner x) {
        StringBuilder state = new StringBuilder(planOf(x));
        for (int b = 0; b < 6; b++) {
            try {
                for (int what = 0; what <= 5; what++) {
                    state.append(what == 0 ? " B" + b + ":" : ",").append(x.branch(b, what));
                }
                for (int e = -1; e < 10; e++) {
                    state.append(e == -1 ? "/" : ",").append(x.difference(b, 0, e));
                }
            } catch (java.util.NoSuchElementException none) {
                state.append(" -");
            }
        }
        try {
            state.append(" C").append(x.conflict(false)).append(",").append(x.conflict(true));
        } catch (java.util.NoSuchElementException none) {
            state.append(" C-");
        }
        return state.append(stepsOf(x)).toString();
    }

    static String planOf(EnvelopePlanner x) {
        StringBuilder plan = new StringBuilder("T");
        for (int what = 0; what <= 11; what++) {
            plan.append(",").append(x.total(what));
        }
        for (int e = 0; e < x.total(8); e++) {
            for (int what = 0; what <= 4; what++) {
                plan.append(what == 0 ? " E" : ",").append(x.envelope(e, what));
            }
        }
        for (int r = 0; r < x.total(9); r++) {
            for (int what = 0; what <= 2; what++) {
                plan.append(what == 0 ? " R" : ",").append(x.rule(r, what));
            }
        }
        for (int k = 0; k < x.total(10); k++) {
            for (int what = 0; what <= 4; what++) {
                plan.append(what == 0 ? " L" : ",").append(x.link(k, what));
            }
        }
        for (int i = 0; i < x.total(11); i++) {
            for (int what = 0; what <= 5; what++) {
                plan.append(what == 0 ? " I" : ",").append(x.item(i, what));
            }
        }
        return plan.toString();
    }

    /** The steps of the present branch, which is the one whose last step has none behind it. */
    static String stepsOf(EnvelopePlanner x) {
        StringBuilder steps = new StringBuilder();
        try {
            for (int n = 0; n <= 60; n++) {
                for (int what = 0; what <= 4; what++) {
                    steps.append(what == 0 ? " S" : ",").append(x.step(n, what));
                }
            }
        } catch (IndexOutOfBoundsException end) {
            steps.append(" end");
        }
        return steps.toString();
    }
}
