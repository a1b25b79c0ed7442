/** The boundary cases of the present plan and of forecasts: promises 15 to 24, as far as they are answered. */
public final class QuestionEdgesTest {
    public static void main(String[] args) {
        envelope();
        spentFromTheBalance();
        rule();
        split();
        link();
        item();
        total();
        savedShare();
        forecast();
        leastPool();
        firstMissed();
        forecastOfRollingOver();
        daysUntil();
        daysUntilTheLimits();
        spare();
        spareUntilTheDay();
        spareSettles();
        spareByHalving();
        withAllSteps();
        Checks.finish();
    }

    private static void envelope() {
        Script.run("Promise 15: what fits into it, at least 0, -1 if it has no cap", """
            addEnvelope(100, 0) = 0 receive(200) = 200
            envelope(0, 3) = 100
            move(-1, 0, 99) = 99 envelope(0, 3) = 1
            move(-1, 0, 1) = 1 envelope(0, 3) = 0
            setCap(0, 99) = 100 envelope(0, 3) = 0 envelope(0, 0) = 100
            setCap(0, 101) = 99 envelope(0, 3) = 1
            setCap(0, 0) = 101 envelope(0, 3) = 0
            setCap(0, -1) = 0 envelope(0, 3) = -1
            setCap(0, 9000000) = -1 envelope(0, 3) = 8999900
            """);
        Script.run("Promise 15: a new envelope", """
            addEnvelope(-1, 0) = 0 addEnvelope(0, 1) = 1 addEnvelope(9000000, 2) = 2
            envelope(0, 0) = 0 envelope(0, 1) = -1 envelope(0, 2) = 0 envelope(0, 3) = -1 envelope(0, 4) = 0
            envelope(1, 0) = 0 envelope(1, 1) = 0 envelope(1, 2) = 1 envelope(1, 3) = 0 envelope(1, 4) = 0
            envelope(2, 0) = 0 envelope(2, 1) = 9000000 envelope(2, 2) = 2 envelope(2, 3) = 9000000
            envelope(2, 4) = 0
            """);
    }

    private static void spentFromTheBalance() {
        Script.run("Promise 15: all that was spent from its balance, without what was taken from the pool", """
            addEnvelope(-1, 0) = 0 addEnvelope(-1, 1) = 1 receive(100) = 100 move(-1, 0, 30) = 30
            spend(0, 10) = 0 envelope(0, 4) = 10
            spend(0, 25) = 5 envelope(0, 4) = 30
            spend(0, 7) = 7 envelope(0, 4) = 30 envelope(1, 4) = 0 total(3) = 42
            # expenses count, moves, links and what is released do not
            move(-1, 1, 20) = 20 addItem(1, 1, 4, 1) = 0 advance(2) = 0 envelope(1, 4) = 8 envelope(1, 0) = 12
            move(1, -1, 2) = 2 addLink(1, 0, 0, 50) = 0 removeItem(0) = 0 receive(1) = 1 envelope(0, 0) = 5
            advance(28) = 0 total(7) = 5 envelope(1, 0) = 0 envelope(1, 4) = 8 envelope(0, 4) = 30
            """);
    }

    private static void rule() {
        Script.run("Promise 16: the first and the last one, the first and the last number", """
            addEnvelope(-1, 0) = 0 addEnvelope(-1, 0) = 1
            addRule(1, 1, 7) = 0 addRule(3, 0, 0) = 1 addRule(4, 1, 99) = 2
            rule(0, 0) = 1 rule(0, 1) = 1 rule(0, 2) = 7 rule(2, 0) = 4 rule(2, 1) = 1 rule(2, 2) = 99
            rule(1, 2) = 0 rule(3, 0) = throws.Index
            """);
    }

    private static void split() {
        Script.run("Promise 17: without rules all comes to the pool", """
            split(-1, 1) = 1 split(-1, 1000000) = 1000000 addEnvelope(-1, 0) = 0 split(0, 1000000) = 0
            """);
        Script.run("Promise 17: with the present balances", """
            addEnvelope(100, 0) = 0 addRule(3, 0, 0) = 0
            split(0, 99) = 99 split(-1, 99) = 0 split(0, 100) = 100 split(-1, 100) = 0
            split(0, 101) = 100 split(-1, 101) = 1 split(0, 1000000) = 100 split(-1, 1000000) = 999900
            receive(60) = 0
            split(0, 40) = 40 split(0, 41) = 40 split(-1, 41) = 1
            receive(40) = 0 split(0, 1) = 0 split(-1, 1) = 1
            setCap(0, 50) = 100 split(0, 1) = 0 split(-1, 1) = 1
            """);
        Script.run("Promise 17: by all rules of an envelope together, ahead of settling", """
            addEnvelope(-1, 0) = 0 addEnvelope(-1, 0) = 1 addRule(0, 0, 10) = 0 addRule(4, 0, 1) = 1
            addRule(4, 1, 1) = 2 addRule(0, 0, 5) = 3 addLink(0, 1, 0, 100) = 0
            split(0, 10) = 10 split(1, 10) = 0 split(0, 11) = 11 split(1, 11) = 0 split(1, 12) = 1
            split(0, 101) = 56 split(1, 101) = 45 split(-1, 101) = 0
            """);
    }

    private static void link() {
        Script.run("Promise 18: what it has passed on altogether", """
            addEnvelope(-1, 0) = 0 addEnvelope(7, 0) = 1 receive(100) = 100 addLink(0, 1, 5, 50) = 0
            link(0, 0) = 0 link(0, 1) = 1 link(0, 2) = 5 link(0, 3) = 50 link(0, 4) = 0
            move(-1, 0, 6) = 6 link(0, 4) = 0
            move(-1, 0, 1) = 1 link(0, 4) = 1
            move(-1, 0, 20) = 20 link(0, 4) = 7 envelope(1, 0) = 7 envelope(0, 0) = 20
            receive(1) = 1 link(0, 4) = 7
            spend(1, 7) = 0 link(0, 4) = 14
            """);
    }

    private static void item() {
        Script.run("Promise 19: the day on which it is due next, and how often it was missed", """
            addEnvelope(-1, 0) = 0 addItem(0, 0, 5, 60) = 0 addItem(1, 0, 9, 7) = 1
            item(0, 0) = 0 item(0, 1) = 0 item(0, 2) = 5 item(0, 3) = 60 item(0, 4) = 60 item(0, 5) = 0
            item(1, 0) = 1 item(1, 4) = 7 item(1, 5) = 0
            advance(6) = 0 item(1, 4) = 7 advance(1) = 1 item(1, 4) = 14 item(1, 5) = 1
            advance(53) = 7 item(1, 4) = 63 item(1, 5) = 8 item(0, 4) = 120 item(0, 5) = 0
            receive(4) = 4 advance(3) = 0 item(1, 4) = 70 item(1, 5) = 8
            """);
    }

    private static void total() {
        Script.run("Promise 20: the number of items that were missed, also of removed ones", """
            addEnvelope(-1, 0) = 0 total(4) = 0 addItem(1, 0, 9, 1) = 0 addItem(1, 0, 8, 2) = 1
            advance(2) = 3 total(4) = 3 removeItem(0) = 1 total(4) = 3 advance(2) = 1 removeItem(0) = 0 total(4) = 4
            """);
        Script.run("Promise 20: all that links, also removed ones, have passed on", """
            addEnvelope(-1, 0) = 0 addEnvelope(-1, 0) = 1 receive(50) = 50 total(6) = 0
            addLink(0, 1, 0, 100) = 0 addLink(1, 0, 10, 50) = 1
            move(-1, 0, 30) = 30 total(6) = 40 removeLink(0) = 1 total(6) = 40 removeLink(0) = 0 total(6) = 40
            """);
        Script.run("Promise 20: all that was released by rolling over, all that was received and spent", """
            addEnvelope(-1, 1) = 0 addEnvelope(-1, 2) = 1 receive(50) = 50 move(-1, 0, 7) = 7 move(-1, 1, 9) = 9
            advance(29) = 0 total(7) = 0 advance(1) = 0 total(7) = 11 total(0) = 45 total(1) = 5
            move(1, -1, 5) = 5 total(7) = 11 total(2) = 50 total(3) = 0 spend(0, 50) = 50 total(3) = 50 total(0) = 0
            """);
        Script.run("Promise 20: the numbers of envelopes, rules, links and items", """
            addEnvelope(-1, 0) = 0 total(8) = 1 addEnvelope(-1, 0) = 1 total(8) = 2
            addRule(3, 0, 0) = 0 total(9) = 1 removeRule(0) = 0 total(9) = 0
            addLink(0, 1, 5, 5) = 0 total(10) = 1 removeLink(0) = 0 total(10) = 0
            addItem(0, 0, 1, 1) = 0 total(11) = 1 removeItem(0) = 0 total(11) = 0
            undo() = 7 total(11) = 1
            """);
    }

    private static void savedShare() {
        Script.run("Promise 21: the part of the received money that was not spent", """
            addEnvelope(-1, 0) = 0 savedShare() = throws.Arithmetic
            receive(1) = 1 savedShare() = 1.0 spend(0, 1) = 1 savedShare() = 0.0
            receive(2) = 2 savedShare() = 2/3 spend(0, 1) = 1 savedShare() = 1/3
            """);
        Script.run("Promise 21: nothing was received: also when it was taken back, and on another branch", """
            fork() = 1 receive(5) = 5 savedShare() = 1.0 select(1) = 0 savedShare() = throws.Arithmetic
            select(0) = 1 savedShare() = 1.0 undo() = 0 savedShare() = throws.Arithmetic
            addItem(0, 0, 1, 2) = 0 advance(1) = 0 savedShare() = throws.Arithmetic
            advance(1) = 0 savedShare() = 1.0
            """);
        Script.run("Promise 21: a missed expense was not spent, and what is moved and released was not, either", """
            addEnvelope(-1, 1) = 0 receive(8) = 8 move(-1, 0, 4) = 4 addItem(1, 0, 9, 10) = 0
            advance(30) = 3 savedShare() = 1.0 receive(1) = 1 advance(10) = 0 savedShare() = 0.0
            """);
    }

    private static void forecast() {
        Script.run("Promise 22: the least and the greatest number of days", """
            addItem(0, 0, 3, 1) = 0 addItem(0, 0, 1000, 200) = throws.Argument
            forecast(1, 0) = 3 forecast(1, 5) = 1 forecast(200, 0) = 600 forecast(200, 5) = 200
            advance(7) = 0 forecast(1, 0) = 24 forecast(200, 5) = 207 forecast(200, 2) = 621
            """);
        Script.run("Promise 22: as for total, 0 to 7, since the beginning", """
            addEnvelope(-1, 1) = 0 addEnvelope(-1, 0) = 1 addRule(0, 0, 10) = 0 addLink(0, 1, 8, 100) = 0
            receive(30) = 20 spend(1, 2) = 0 addItem(1, 0, 50, 3) = 0 addItem(0, 0, 15, 4) = 1 advance(3) = 1
            # now: pool 20, balances 8 and 0; on day 4 10 more to the first, of which 10 are passed on, and 5
            total(0) = 20 total(1) = 8 total(2) = 30 total(3) = 2 total(4) = 1 total(5) = 3 total(6) = 2 total(7) = 0
            forecast(1, 0) = 25 forecast(1, 1) = 18 forecast(1, 2) = 45 forecast(1, 3) = 2 forecast(1, 4) = 1
            forecast(1, 5) = 4 forecast(1, 6) = 12 forecast(1, 7) = 0
            forecast(3, 4) = 2
            """);
    }

    private static void leastPool() {
        Script.run("Promise 22: the least pool at the ends of these days, not now", """
            addItem(0, 0, 10, 1) = 0
            forecast(1, 8) = 10 forecast(2, 8) = 10 forecast(200, 8) = 10
            """);
        Script.run("Promise 22: the least pool may be that of the first or of the last day", """
            addEnvelope(-1, 0) = 0 receive(100) = 100 addItem(1, 0, 40, 1) = 0
            forecast(1, 8) = 60 forecast(2, 8) = 20 forecast(3, 8) = 20
            removeItem(0) = 0 addItem(1, 0, 40, 5) = 0 addItem(0, 0, 30, 6) = 1
            forecast(4, 8) = 100 forecast(5, 8) = 60 forecast(6, 8) = 60 forecast(9, 8) = 60 forecast(10, 8) = 50
            """);
        Script.run("Promise 22: what the pool is within a day does not matter", """
            addEnvelope(-1, 0) = 0 receive(100) = 100 addItem(1, 0, 90, 2) = 0 addItem(0, 0, 85, 2) = 1
            forecast(1, 8) = 100 forecast(2, 8) = 95 forecast(4, 8) = 90
            """);
    }

    private static void firstMissed() {
        Script.run("Promise 22: the first of these days, counted from 1, on which an item is missed, or 0", """
            addEnvelope(-1, 0) = 0 receive(10) = 10 addItem(1, 0, 10, 4) = 0
            forecast(4, 9) = 0 forecast(7, 9) = 0 forecast(8, 9) = 8 forecast(9, 9) = 8 forecast(200, 9) = 8
            advance(7) = 0 forecast(1, 9) = 1 forecast(200, 9) = 1
            # what was missed before these days does not count
            advance(1) = 1 forecast(3, 9) = 0 forecast(4, 9) = 4 total(4) = 1 forecast(3, 4) = 1 forecast(4, 4) = 2
            """);
        Script.run("Promise 22: an item that is missed on the last of 200 days", """
            addEnvelope(-1, 0) = 0 receive(3) = 3 addItem(1, 0, 1, 50) = 0
            forecast(199, 9) = 0 forecast(200, 9) = 200
            """);
    }

    private static void forecastOfRollingOver() {
        Script.run("Promise 22: rolling over by the day of the plan", """
            addEnvelope(-1, 2) = 0 receive(100) = 100 move(-1, 0, 64) = 64 advance(25) = 0
            forecast(4, 7) = 0 forecast(5, 7) = 32 forecast(34, 7) = 32 forecast(35, 7) = 48
            # a last cent is released on day 180, and of the one that is left then nothing
            forecast(154, 7) = 62 forecast(155, 7) = 63 forecast(200, 7) = 63 forecast(200, 1) = 1
            """);
    }

    private static void daysUntil() {
        Script.run("Promise 23: 0 if it is so now", """
            addEnvelope(-1, 0) = 0 daysUntil(0, 0) = 0 daysUntil(0, 1) = throws.None
            receive(50) = 50 move(-1, 0, 50) = 50
            daysUntil(0, 49) = 0 daysUntil(0, 50) = 0 daysUntil(0, 51) = throws.None
            """);
        Script.run("Promise 23: the balance will be at least an amount at the end of a day", """
            addEnvelope(-1, 0) = 0 addEnvelope(-1, 0) = 1 addRule(2, 0, 100) = 0 addItem(0, 0, 10, 3) = 0
            daysUntil(0, 1) = 3 daysUntil(0, 10) = 3 daysUntil(0, 11) = 6 daysUntil(0, 660) = 198
            daysUntil(0, 661) = throws.None
            # what an expense takes on the same day is not there at its end
            addItem(1, 0, 1, 3) = 1
            daysUntil(0, 9) = 3 daysUntil(0, 10) = 6 daysUntil(0, 594) = 198 daysUntil(0, 595) = throws.None
            # and what a link passes on is not there, either: 10 become 9, and then 8
            addLink(0, 1, 9, 100) = 0 daysUntil(0, 8) = 3 daysUntil(0, 9) = throws.None
            daysUntil(1, 1) = 3 daysUntil(1, 2) = 6 daysUntil(1, 10) = 6 daysUntil(1, 11) = 9
            """);
        Script.run("Promise 23: what is released on the 30th day is not there at its end", """
            addEnvelope(-1, 1) = 0 addRule(2, 0, 100) = 0 addItem(0, 0, 10, 10) = 0
            daysUntil(0, 20) = 20 daysUntil(0, 21) = throws.None daysUntil(0, 30) = throws.None
            """);
    }

    private static void daysUntilTheLimits() {
        Script.run("Promise 23: within 200 days", """
            addEnvelope(-1, 0) = 0 addRule(2, 0, 100) = 0 addItem(0, 0, 10, 40) = 0
            daysUntil(0, 50) = 200 daysUntil(0, 51) = throws.None
            advance(1) = 0 daysUntil(0, 50) = 199 undo() = 3
            removeItem(0) = 0 advance(1) = 0 addItem(0, 0, 10, 40) = 0 advance(39) = 0
            daysUntil(0, 10) = 1 daysUntil(0, 50) = 161
            """);
        Script.run("Promise 23: the 201st day is too late", """
            advance(1) = 0 addEnvelope(-1, 0) = 0 addRule(2, 0, 100) = 0
            addItem(0, 0, 10, 20) = 0 addItem(0, 0, 1, 3) = 1
            # ten tens come until the 200th day from now, 66 cents until the 198th, and one more on the 201st
            daysUntil(0, 166) = 200 daysUntil(0, 167) = throws.None
            """);
        Script.run("Promise 23: the greatest amount", """
            addEnvelope(-1, 0) = 0 addRule(0, 0, 1000000) = 0 addItem(0, 0, 1000000, 1) = 0
            daysUntil(0, 9000000) = 9 advance(9) = 0 daysUntil(0, 9000000) = 0
            setCap(0, 8999999) = -1 daysUntil(0, 9000000) = 0 spend(0, 1) = 0 daysUntil(0, 9000000) = throws.None
            """);
    }

    private static void spare() {
        Script.run("Promise 24: nothing to spare, a cent, and as much as there is", """
            addEnvelope(-1, 0) = 0 addEnvelope(-1, 0) = 1 spare(0, 1) = 0 spare(0, 60) = 0
            receive(1) = 1 spare(0, 1) = 1 spare(1, 60) = 1
            receive(99) = 99 move(-1, 0, 60) = 60 spare(0, 1) = 100 spare(1, 1) = 40
            """);
        Script.run("Promise 24: 1000000 at most, as this can be spent at once", """
            addEnvelope(-1, 0) = 0 receive(999999) = 999999 spare(0, 60) = 999999
            receive(1) = 1 spare(0, 60) = 1000000 receive(1) = 1 spare(0, 60) = 1000000
            receive(1000000) = 1000000 spare(0, 60) = 1000000
            """);
    }

    private static void spareUntilTheDay() {
        Script.run("Promise 24: so that no expense is missed in the following days", """
            addEnvelope(-1, 0) = 0 addEnvelope(-1, 0) = 1 receive(100) = 100 addItem(1, 1, 30, 5) = 0
            spare(0, 4) = 100 spare(0, 5) = 70 spare(0, 9) = 70 spare(0, 10) = 40 spare(0, 15) = 10
            # the fourth one is missed whatever is spent
            spare(0, 19) = 10 spare(0, 20) = 0 spare(0, 60) = 0
            advance(4) = 0 spare(0, 1) = 70 spare(0, 5) = 70 spare(0, 6) = 40
            """);
        Script.run("Promise 24: an expense of the 60th day counts, and one of the 61st does not", """
            addEnvelope(-1, 0) = 0 receive(100) = 100 addItem(1, 0, 30, 60) = 0
            spare(0, 59) = 100 spare(0, 60) = 70
            removeItem(0) = 0 addItem(1, 0, 30, 60) = 0 advance(1) = 0 spare(0, 58) = 100 spare(0, 59) = 70
            """);
        Script.run("Promise 24: an income in the following days pays for an expense behind it", """
            addEnvelope(-1, 0) = 0 receive(100) = 100 addItem(0, 0, 25, 3) = 0 addItem(1, 0, 30, 3) = 1
            spare(0, 2) = 100 spare(0, 3) = 95 spare(0, 6) = 90
            removeItem(0) = 1 addItem(0, 0, 25, 3) = 1
            # the expense is ahead of the income now
            spare(0, 3) = 70 spare(0, 6) = 65
            """);
        Script.run("Promise 24: an expense that was missed before does not matter", """
            addEnvelope(-1, 0) = 0 addItem(1, 0, 30, 5) = 0 advance(5) = 1 receive(50) = 50
            spare(0, 4) = 50 spare(0, 5) = 20
            """);
        Script.run("Promise 24: what is released on the 30th day helps from then on", """
            addEnvelope(-1, 1) = 0 addEnvelope(-1, 0) = 1 receive(100) = 100 move(-1, 0, 90) = 90
            addItem(1, 1, 60, 29) = 0 spare(1, 28) = 10 spare(1, 29) = 0 removeItem(0) = 0
            addItem(1, 1, 60, 31) = 0 spare(1, 31) = 10 spare(0, 31) = 40
            """);
    }

    private static void spareSettles() {
        Script.run("Promise 24: with settling behind it", """
            addEnvelope(-1, 0) = 0 addEnvelope(-1, 0) = 1 receive(100) = 100 move(-1, 0, 100) = 100
            addLink(0, 1, 40, 100) = 0 addItem(1, 1, 30, 1) = 0
            # above 40 all is passed on behind the spending, and the expense needs 30 of it
            spare(0, 1) = 30 envelope(0, 0) = 100
            """);
    }

    private static void spareByHalving() {
        String start = """
            addEnvelope(-1, 0) = 0 addEnvelope(-1, 0) = 1 addEnvelope(-1, 0) = 2
            receive(1000000) = 1000000 move(-1, 0, 1000000) = 1000000
            """;
        String end = """
            addLink(1, 2, 0, 100) = 0 addLink(0, 1, 0, 100) = 1 addItem(1, 2, 900000, 1) = 0
            """;
        Script.run("Promise 24: if a greater amount can be spared though a smaller one cannot, the halving may tell it",
            start + """
            receive(550000) = 550000 move(-1, 1, 400000) = 400000
            """ + end + """
            # 500000 empties envelope 1, so that all of envelope 0 goes through it, and so does what is more
            spare(1, 1) = 550000 fork() = 1 spend(1, 100000) = 0 forecast(1, 9) = 1
            """);
        Script.run("Promise 24: but the halving meets the middle first", start + """
            receive(750000) = 750000 move(-1, 1, 600000) = 600000
            """ + end + """
            # 500000 leaves 100000 in envelope 1, which go on, and envelope 0 stays in front of the expense
            spare(1, 1) = 0 spend(1, 600000) = 0 forecast(1, 9) = 0
            """);
    }

    private static void withAllSteps() {
        Script.run("Promises 22 to 24: forecasts make no step, so that a branch with 60 steps has them, too", """
            addEnvelope(-1, 0) = 0 addRule(0, 0, 2) = 0 addItem(0, 0, 3, 1) = 0 addItem(1, 0, 50, 9) = 1
            56x receive(4) = 2
            branch(0, 1) = 60 advance(1) = throws.State3 spend(0, 1) = throws.State3
            forecast(1, 0) = 113 forecast(1, 1) = 114 daysUntil(0, 112) = 0 daysUntil(0, 114) = 1
            spare(0, 8) = 224 spare(0, 9) = 201
            """);
    }
}
