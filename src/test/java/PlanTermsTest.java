/** The boundary cases that "Terms" names for a plan: Plans, Income, Spending, Links, Items and Days. */
public final class PlanTermsTest {
    public static void main(String[] args) {
        plans();
        neverNegative();
        fullPlan();
        removedRules();
        removedLinks();
        removedItems();
        rollingOver();
        putting();
        putsIntoTheGreatestCap();
        fixed();
        partOfTheIncome();
        partOfTheRest();
        fill();
        shares();
        sharesThatDirectlyFollow();
        whatIsLeft();
        spending();
        links();
        settling();
        items();
        missedItems();
        days();
        dueOnOneDay();
        greatSums();
        Checks.finish();
    }

    /** Calls that add some envelopes of the same kind to a planner without any. */
    private static String envelopes(int count, String kind) {
        StringBuilder calls = new StringBuilder();
        for (int e = 0; e < count; e++) {
            calls.append("addEnvelope(").append(kind).append(") = ").append(e).append("\n");
        }
        return calls.toString();
    }

    private static void neverNegative() {
        Script.run("Plans: a balance is never negative: all of it is spent, moved and passed on", """
            addEnvelope(-1, 1) = 0 addEnvelope(-1, 2) = 1 receive(100) = 100
            move(-1, 0, 30) = 30 spend(0, 31) = 1 envelope(0, 0) = 0
            spend(0, 70) = throws.State4 envelope(0, 0) = 0 total(0) = 69
            move(-1, 0, 9) = 9 move(0, 1, 10) = throws.State4 move(0, 1, 9) = 9 envelope(0, 0) = 0
            addLink(1, 0, 0, 100) = 0 receive(1) = 1 envelope(1, 0) = 0 envelope(0, 0) = 9
            addItem(1, 0, 10, 30) = 0 advance(30) = 0 envelope(0, 0) = 0 envelope(1, 0) = 0 total(0) = 60
            advance(60) = 0 envelope(0, 0) = 0 envelope(1, 0) = 0 total(0) = 40 total(7) = 0
            """);
    }

    private static void plans() {
        Script.run("Plans: a pool of money, at first 0, a day, at first 0", """
            total(0) = 0 total(5) = 0 branch(0, 3) = 0 branch(0, 5) = 0
            """);
        Script.run("Plans: at most 10 envelopes, numbered from 0 in the order in which they were added", """
            envelope(0, 0) = throws.Index
            addEnvelope(100, 0) = 0 addEnvelope(101, 1) = 1 addEnvelope(102, 2) = 2 addEnvelope(103, 0) = 3
            addEnvelope(104, 1) = 4 addEnvelope(105, 2) = 5 addEnvelope(106, 0) = 6 addEnvelope(107, 1) = 7
            addEnvelope(108, 2) = 8
            envelope(9, 1) = throws.Index
            addEnvelope(109, 0) = 9
            addEnvelope(110, 1) = throws.State3
            total(8) = 10
            envelope(0, 1) = 100 envelope(4, 1) = 104 envelope(4, 2) = 1 envelope(9, 1) = 109 envelope(9, 2) = 0
            envelope(10, 1) = throws.Index
            """);
        Script.run("Plans: at most 6 rules, numbered from 0 in the order in which they were added", """
            rule(0, 0) = throws.Index
            addEnvelope(-1, 0) = 0
            addRule(0, 0, 20) = 0 addRule(0, 0, 21) = 1 addRule(0, 0, 22) = 2 addRule(0, 0, 23) = 3
            addRule(0, 0, 24) = 4
            rule(5, 2) = throws.Index
            addRule(0, 0, 25) = 5
            addRule(0, 0, 26) = throws.State3
            total(9) = 6 rule(0, 2) = 20 rule(3, 2) = 23 rule(5, 2) = 25
            rule(6, 2) = throws.Index
            """);
        Script.run("Plans: at most 6 links, numbered from 0 in the order in which they were added", """
            link(0, 0) = throws.Index
            addEnvelope(-1, 0) = 0 addEnvelope(-1, 0) = 1
            addLink(0, 1, 30, 1) = 0 addLink(0, 1, 31, 1) = 1 addLink(1, 0, 32, 1) = 2 addLink(0, 1, 33, 1) = 3
            addLink(1, 0, 34, 1) = 4
            link(5, 2) = throws.Index
            addLink(1, 0, 35, 1) = 5
            addLink(0, 1, 36, 1) = throws.State3
            total(10) = 6 link(0, 2) = 30 link(3, 2) = 33 link(5, 2) = 35
            link(6, 2) = throws.Index
            """);
        Script.run("Plans: at most 8 items, numbered from 0 in the order in which they were added", """
            item(0, 0) = throws.Index
            addItem(0, 0, 40, 1) = 0 addItem(0, 0, 41, 1) = 1 addItem(0, 0, 42, 1) = 2 addItem(0, 0, 43, 1) = 3
            addItem(0, 0, 44, 1) = 4 addItem(0, 0, 45, 1) = 5 addItem(0, 0, 46, 1) = 6
            item(7, 2) = throws.Index
            addItem(0, 0, 47, 1) = 7
            addItem(0, 0, 48, 1) = throws.State3
            total(11) = 8 item(0, 2) = 40 item(4, 2) = 44 item(7, 2) = 47
            item(8, 2) = throws.Index
            """);
    }

    private static void fullPlan() {
        Script.run("Plans: all that a plan can have at once", envelopes(10, "5, 0") + """
            addRule(3, 9, 0) = 0 addRule(3, 8, 0) = 1 addRule(3, 7, 0) = 2 addRule(3, 6, 0) = 3 addRule(3, 5, 0) = 4
            addRule(3, 4, 0) = 5
            addLink(9, 0, 1, 100) = 0 addLink(8, 0, 1, 100) = 1 addLink(7, 0, 1, 100) = 2 addLink(6, 0, 1, 100) = 3
            addLink(5, 0, 1, 100) = 4 addLink(4, 0, 1, 100) = 5
            addItem(1, 9, 1, 1) = 0 addItem(1, 8, 1, 1) = 1 addItem(1, 7, 1, 1) = 2 addItem(1, 6, 1, 1) = 3
            addItem(1, 5, 1, 1) = 4 addItem(1, 4, 1, 1) = 5 addItem(1, 3, 1, 1) = 6 addItem(0, 0, 1, 1) = 7
            # six envelopes come to 5; the first two links pass 4 and 1 on, and no more fits there
            receive(31) = 1
            envelope(0, 0) = 5 envelope(9, 0) = 1 envelope(8, 0) = 4 envelope(7, 0) = 5 envelope(4, 0) = 5
            total(6) = 5
            # the six pay 1 each, the seventh expense takes the pool; the income goes to envelope 9
            advance(1) = 0
            envelope(9, 0) = 1 envelope(8, 0) = 3 envelope(7, 0) = 4 envelope(4, 0) = 4 total(0) = 0 total(3) = 7
            addEnvelope(5, 0) = throws.State3 addRule(3, 9, 0) = throws.State3
            addLink(9, 0, 1, 100) = throws.State3 addItem(0, 0, 1, 1) = throws.State3
            """);
    }

    private static void removedRules() {
        Script.run("Plans: after a rule is removed, the numbers of the later ones decrease by 1", """
            addEnvelope(-1, 0) = 0 addEnvelope(-1, 0) = 1
            addRule(0, 0, 10) = 0 addRule(0, 1, 11) = 1 addRule(1, 0, 12) = 2 addRule(1, 1, 13) = 3
            addRule(2, 0, 14) = 4 addRule(4, 1, 15) = 5
            removeRule(0) = 5
            rule(0, 0) = 0 rule(0, 1) = 1 rule(0, 2) = 11
            rule(1, 0) = 1 rule(1, 1) = 0 rule(1, 2) = 12
            rule(2, 0) = 1 rule(2, 1) = 1 rule(2, 2) = 13
            rule(3, 0) = 2 rule(3, 1) = 0 rule(3, 2) = 14
            rule(4, 0) = 4 rule(4, 1) = 1 rule(4, 2) = 15
            rule(5, 0) = throws.Index removeRule(5) = throws.Index
            # one in the middle, and the last one
            removeRule(2) = 4
            rule(0, 2) = 11 rule(1, 2) = 12 rule(2, 2) = 14 rule(2, 0) = 2 rule(3, 2) = 15 rule(4, 2) = throws.Index
            removeRule(3) = 3
            rule(0, 2) = 11 rule(1, 2) = 12 rule(2, 2) = 14 rule(3, 2) = throws.Index removeRule(3) = throws.Index
            addRule(3, 1, 0) = 3
            rule(3, 0) = 3 rule(3, 1) = 1 rule(3, 2) = 0
            removeRule(0) = 3 removeRule(0) = 2 removeRule(0) = 1
            rule(0, 0) = 3 rule(0, 1) = 1
            removeRule(0) = 0
            removeRule(0) = throws.Index rule(0, 0) = throws.Index total(9) = 0
            """);
        Script.run("Income: the rules that remain are applied in their order", envelopes(3, "-1, 0") + """
            addRule(0, 0, 60) = 0 addRule(0, 1, 30) = 1 addRule(0, 2, 20) = 2
            receive(100) = 0 envelope(0, 0) = 60 envelope(1, 0) = 30 envelope(2, 0) = 10 undo() = 6
            removeRule(0) = 2
            receive(100) = 50 envelope(0, 0) = 0 envelope(1, 0) = 30 envelope(2, 0) = 20 undo() = 7
            removeRule(1) = 1
            receive(100) = 70 envelope(0, 0) = 0 envelope(1, 0) = 30 envelope(2, 0) = 0 undo() = 8
            removeRule(0) = 0
            receive(100) = 100 envelope(1, 0) = 0
            """);
    }

    private static void removedLinks() {
        Script.run("Plans: after a link is removed, the numbers of the later ones decrease by 1", """
            receive(1000) = 1000
            """ + envelopes(8, "-1, 0") + """
            move(-1, 0, 110) = 110 move(-1, 1, 120) = 120 move(-1, 2, 130) = 130
            move(-1, 3, 140) = 140 move(-1, 4, 150) = 150 move(-1, 5, 160) = 160
            addLink(0, 7, 10, 100) = 0 addLink(1, 7, 20, 90) = 1 addLink(2, 7, 30, 80) = 2
            addLink(3, 7, 40, 70) = 3 addLink(4, 7, 50, 60) = 4 addLink(5, 6, 60, 50) = 5
            receive(1) = 1
            link(0, 4) = 100 link(1, 4) = 90 link(2, 4) = 80 link(3, 4) = 70 link(4, 4) = 60 link(5, 4) = 50
            removeLink(0) = 5
            link(0, 0) = 1 link(0, 1) = 7 link(0, 2) = 20 link(0, 3) = 90 link(0, 4) = 90
            link(1, 0) = 2 link(1, 1) = 7 link(1, 2) = 30 link(1, 3) = 80 link(1, 4) = 80
            link(2, 0) = 3 link(2, 1) = 7 link(2, 2) = 40 link(2, 3) = 70 link(2, 4) = 70
            link(3, 0) = 4 link(3, 1) = 7 link(3, 2) = 50 link(3, 3) = 60 link(3, 4) = 60
            link(4, 0) = 5 link(4, 1) = 6 link(4, 2) = 60 link(4, 3) = 50 link(4, 4) = 50
            link(5, 0) = throws.Index removeLink(5) = throws.Index
            # one in the middle, and the last one
            removeLink(2) = 4
            link(0, 2) = 20 link(1, 2) = 30 link(2, 2) = 50 link(3, 2) = 60 link(4, 2) = throws.Index
            removeLink(3) = 3
            link(0, 2) = 20 link(1, 2) = 30 link(2, 2) = 50 link(3, 2) = throws.Index removeLink(3) = throws.Index
            # a new one takes the place of the last one, and has passed on nothing
            addLink(7, 0, 9000000, 9) = 3
            link(3, 0) = 7 link(3, 1) = 0 link(3, 2) = 9000000 link(3, 3) = 9 link(3, 4) = 0
            removeLink(0) = 3 removeLink(0) = 2 removeLink(0) = 1
            link(0, 0) = 7
            removeLink(0) = 0
            removeLink(0) = throws.Index link(0, 0) = throws.Index total(10) = 0 total(6) = 450
            """);
        Script.run("Links: one that is removed passes nothing on, and the others do", envelopes(3, "-1, 0") + """
            receive(100) = 100 addLink(0, 1, 0, 100) = 0 addLink(2, 1, 0, 100) = 1
            removeLink(0) = 1
            move(-1, 0, 30) = 30 move(-1, 2, 20) = 20
            envelope(0, 0) = 30 envelope(1, 0) = 20 envelope(2, 0) = 0 total(6) = 20
            """);
        Script.run("Links: also if it is the last one, or the only one", envelopes(3, "-1, 0") + """
            receive(100) = 100 addLink(0, 1, 0, 100) = 0 addLink(2, 1, 0, 100) = 1
            removeLink(1) = 1
            move(-1, 2, 20) = 20 move(-1, 0, 30) = 30
            envelope(0, 0) = 0 envelope(1, 0) = 30 envelope(2, 0) = 20 total(6) = 30
            removeLink(0) = 0
            move(-1, 0, 5) = 5 envelope(0, 0) = 5 envelope(1, 0) = 30 total(6) = 30
            """);
    }

    private static void removedItems() {
        Script.run("Plans: after an item is removed, the numbers of the later ones decrease by 1", """
            addEnvelope(-1, 0) = 0 addEnvelope(-1, 0) = 1
            addItem(0, 0, 10, 7) = 0 addItem(1, 0, 11000, 1) = 1 addItem(1, 1, 12000, 2) = 2 addItem(0, 0, 13, 8) = 3
            addItem(1, 0, 14000, 3) = 4 addItem(1, 1, 15000, 4) = 5 addItem(0, 0, 16, 9) = 6
            addItem(1, 1, 17000, 5) = 7
            advance(4) = 8
            removeItem(0) = 7
            item(0, 0) = 1 item(0, 1) = 0 item(0, 2) = 11000 item(0, 3) = 1 item(0, 4) = 5 item(0, 5) = 4
            item(1, 0) = 1 item(1, 1) = 1 item(1, 2) = 12000 item(1, 3) = 2 item(1, 4) = 6 item(1, 5) = 2
            item(2, 0) = 0 item(2, 1) = 0 item(2, 2) = 13 item(2, 3) = 8 item(2, 4) = 8 item(2, 5) = 0
            item(3, 0) = 1 item(3, 1) = 0 item(3, 2) = 14000 item(3, 3) = 3 item(3, 4) = 6 item(3, 5) = 1
            item(4, 0) = 1 item(4, 1) = 1 item(4, 2) = 15000 item(4, 3) = 4 item(4, 4) = 8 item(4, 5) = 1
            item(5, 0) = 0 item(5, 1) = 0 item(5, 2) = 16 item(5, 3) = 9 item(5, 4) = 9 item(5, 5) = 0
            item(6, 0) = 1 item(6, 1) = 1 item(6, 2) = 17000 item(6, 3) = 5 item(6, 4) = 5 item(6, 5) = 0
            item(7, 0) = throws.Index removeItem(7) = throws.Index
            # one in the middle, and the last one
            removeItem(3) = 6
            item(2, 2) = 13 item(3, 2) = 15000 item(4, 2) = 16 item(5, 2) = 17000 item(6, 2) = throws.Index
            removeItem(5) = 5
            item(0, 2) = 11000 item(4, 2) = 16 item(5, 2) = throws.Index removeItem(5) = throws.Index
            # a new one takes the place of the last one, and was never missed
            addItem(1, 0, 18000, 6) = 5
            item(5, 2) = 18000 item(5, 3) = 6 item(5, 4) = 10 item(5, 5) = 0 total(11) = 6
            removeItem(0) = 5 removeItem(0) = 4 removeItem(0) = 3 removeItem(0) = 2 removeItem(0) = 1
            item(0, 2) = 18000
            removeItem(0) = 0
            removeItem(0) = throws.Index item(0, 0) = throws.Index total(11) = 0 total(4) = 8
            """);
        Script.run("Plans: an item that is added in the place of one that was missed was never missed", """
            addEnvelope(-1, 0) = 0 addItem(0, 0, 1, 9) = 0 addItem(1, 0, 5, 1) = 1 advance(2) = 2 item(1, 5) = 2
            removeItem(1) = 1 addItem(1, 0, 7, 3) = 1 item(1, 2) = 7 item(1, 4) = 5 item(1, 5) = 0 total(4) = 2
            """);
        Script.run("Items: one that is removed is due no more, and the others are", """
            addItem(0, 0, 1, 2) = 0 addItem(0, 0, 20, 2) = 1 addItem(0, 0, 300, 3) = 2
            advance(1) = 0 removeItem(0) = 2
            advance(1) = 0 total(0) = 20 advance(1) = 0 total(0) = 320
            removeItem(1) = 1 advance(3) = 0 total(0) = 360
            """);
    }

    private static void rollingOver() {
        Script.run("Plans: 0 keeps the balance, 1 releases all of it, 2 releases half of it, rounded down", """
            addEnvelope(-1, 1) = 0 addEnvelope(-1, 1) = 1
            addEnvelope(-1, 2) = 2 addEnvelope(-1, 2) = 3 addEnvelope(-1, 2) = 4 addEnvelope(-1, 2) = 5
            addEnvelope(-1, 0) = 6
            receive(100) = 100
            move(-1, 1, 1) = 1 move(-1, 3, 1) = 1 move(-1, 4, 2) = 2 move(-1, 5, 3) = 3 move(-1, 6, 5) = 5
            advance(30) = 0
            envelope(0, 0) = 0 envelope(1, 0) = 0
            envelope(2, 0) = 0 envelope(3, 0) = 1 envelope(4, 0) = 1 envelope(5, 0) = 2
            envelope(6, 0) = 5
            total(7) = 3 total(0) = 91
            """);
    }

    private static void putting() {
        Script.run("Plans: only as much of it as fits below the cap is put there by a rule, possibly nothing", """
            addEnvelope(100, 0) = 0 addRule(0, 0, 1000000) = 0
            receive(99) = 0 envelope(0, 0) = 99 envelope(0, 3) = 1 undo() = 2
            receive(100) = 0 envelope(0, 0) = 100 envelope(0, 3) = 0 undo() = 2
            receive(101) = 1 envelope(0, 0) = 100 envelope(0, 3) = 0 total(0) = 1
            receive(1) = 1 envelope(0, 0) = 100 total(0) = 2
            """);
        Script.run("Plans: only as much of it as fits below the cap is put there by a move, possibly nothing", """
            addEnvelope(100, 0) = 0 addEnvelope(-1, 0) = 1 receive(500) = 500 move(-1, 1, 200) = 200
            move(-1, 0, 99) = 99 envelope(0, 0) = 99 total(0) = 201 undo() = 4
            move(-1, 0, 100) = 100 envelope(0, 0) = 100 total(0) = 200 undo() = 4
            move(-1, 0, 101) = 100 envelope(0, 0) = 100 total(0) = 200
            move(1, 0, 1) = 0 envelope(1, 0) = 200 move(-1, 0, 1) = 0 total(0) = 200
            """);
        Script.run("Plans: only as much of it as fits below the cap is put there by a link, possibly nothing", """
            addEnvelope(100, 0) = 0 addEnvelope(-1, 0) = 1 receive(500) = 500 addLink(1, 0, 0, 100) = 0
            move(-1, 1, 99) = 99 envelope(0, 0) = 99 envelope(1, 0) = 0 undo() = 4
            move(-1, 1, 100) = 100 envelope(0, 0) = 100 envelope(1, 0) = 0 undo() = 4
            move(-1, 1, 101) = 101 envelope(0, 0) = 100 envelope(1, 0) = 1 link(0, 4) = 100
            receive(1) = 1 envelope(0, 0) = 100 envelope(1, 0) = 1 link(0, 4) = 100 total(6) = 100
            """);
        Script.run("Plans: a cap of 0 lets nothing in, and one of 1 a cent", """
            addEnvelope(0, 0) = 0 addEnvelope(1, 0) = 1 addRule(0, 0, 5) = 0 addRule(0, 1, 5) = 1
            receive(1) = 0 envelope(0, 0) = 0 envelope(1, 0) = 1
            receive(9) = 9 envelope(0, 0) = 0 envelope(1, 0) = 1
            move(-1, 0, 5) = 0 move(-1, 1, 5) = 0 move(1, 0, 1) = 0
            """);
    }

    private static void putsIntoTheGreatestCap() {
        Script.run("Plans: a cap from 0 to 9000000", """
            addEnvelope(9000000, 0) = 0 addRule(0, 0, 1000000) = 0
            8x receive(1000000) = 0
            receive(999999) = 0 envelope(0, 0) = 8999999 envelope(0, 3) = 1
            receive(2) = 1 envelope(0, 0) = 9000000 envelope(0, 3) = 0
            receive(1000000) = 1000000 envelope(0, 0) = 9000000
            """);
        Script.run("Plans: a cap of -1 is none", """
            addEnvelope(-1, 0) = 0 addRule(0, 0, 1000000) = 0
            10x receive(1000000) = 0
            envelope(0, 0) = 10000000 envelope(0, 3) = -1 envelope(0, 1) = -1
            """);
    }

    private static void fixed() {
        Script.run("Income: fixed: n cents, or what is left if that is less, are put into the envelope", """
            addEnvelope(-1, 0) = 0 addEnvelope(-1, 0) = 1 addRule(0, 0, 100) = 0 addRule(0, 1, 5) = 1
            receive(99) = 0 envelope(0, 0) = 99 envelope(1, 0) = 0 undo() = 4
            receive(100) = 0 envelope(0, 0) = 100 envelope(1, 0) = 0 undo() = 4
            receive(101) = 0 envelope(0, 0) = 100 envelope(1, 0) = 1 undo() = 4
            receive(105) = 0 envelope(0, 0) = 100 envelope(1, 0) = 5 undo() = 4
            receive(106) = 1 envelope(0, 0) = 100 envelope(1, 0) = 5
            """);
        Script.run("Income: fixed, the least and the greatest n", """
            addEnvelope(-1, 0) = 0 addEnvelope(-1, 0) = 1 addRule(0, 0, 1) = 0 addRule(0, 1, 1000000) = 1
            receive(1) = 0 envelope(0, 0) = 1 envelope(1, 0) = 0 undo() = 4
            receive(1000000) = 0 envelope(0, 0) = 1 envelope(1, 0) = 999999 undo() = 4
            removeRule(0) = 1
            receive(1000000) = 0 envelope(0, 0) = 0 envelope(1, 0) = 1000000
            """);
    }

    private static void partOfTheIncome() {
        Script.run("Income: part of the income: the amount that was received times n, divided by 100, rounded down", """
            addEnvelope(-1, 0) = 0 addRule(1, 0, 1) = 0
            receive(1) = 1 envelope(0, 0) = 0 undo() = 2
            receive(99) = 99 envelope(0, 0) = 0 undo() = 2
            receive(100) = 99 envelope(0, 0) = 1 undo() = 2
            receive(199) = 198 envelope(0, 0) = 1 undo() = 2
            receive(200) = 198 envelope(0, 0) = 2 undo() = 2
            receive(1000000) = 990000 envelope(0, 0) = 10000
            """);
        Script.run("Income: part of the income, all of it", """
            addEnvelope(-1, 0) = 0 addRule(1, 0, 100) = 0
            receive(1) = 0 receive(1000000) = 0 envelope(0, 0) = 1000001
            """);
        Script.run("Income: part of the income: of what was received, not of what is left, but at most what is left", """
            addEnvelope(-1, 0) = 0 addEnvelope(-1, 0) = 1 addRule(0, 0, 60) = 0 addRule(1, 1, 50) = 1
            receive(60) = 0 envelope(0, 0) = 60 envelope(1, 0) = 0 undo() = 4
            receive(118) = 0 envelope(0, 0) = 60 envelope(1, 0) = 58 undo() = 4
            receive(119) = 0 envelope(0, 0) = 60 envelope(1, 0) = 59 undo() = 4
            receive(120) = 0 envelope(0, 0) = 60 envelope(1, 0) = 60 undo() = 4
            receive(121) = 1 envelope(0, 0) = 60 envelope(1, 0) = 60 undo() = 4
            receive(200) = 40 envelope(0, 0) = 60 envelope(1, 0) = 100
            """);
    }

    private static void partOfTheRest() {
        Script.run("Income: part of the rest: what is left times n, divided by 100, rounded down", """
            addEnvelope(-1, 0) = 0 addEnvelope(-1, 0) = 1 addRule(0, 0, 60) = 0 addRule(2, 1, 50) = 1
            receive(60) = 0 envelope(0, 0) = 60 envelope(1, 0) = 0 undo() = 4
            receive(61) = 1 envelope(0, 0) = 60 envelope(1, 0) = 0 undo() = 4
            receive(62) = 1 envelope(0, 0) = 60 envelope(1, 0) = 1 undo() = 4
            receive(63) = 2 envelope(0, 0) = 60 envelope(1, 0) = 1 undo() = 4
            receive(260) = 100 envelope(0, 0) = 60 envelope(1, 0) = 100
            """);
        Script.run("Income: part of the rest, the least and the greatest n", """
            addEnvelope(-1, 0) = 0 addEnvelope(-1, 0) = 1 addRule(2, 0, 1) = 0
            receive(99) = 99 envelope(0, 0) = 0 undo() = 3
            receive(100) = 99 envelope(0, 0) = 1 undo() = 3
            addRule(2, 1, 100) = 1
            receive(100) = 0 envelope(0, 0) = 1 envelope(1, 0) = 99 undo() = 4
            receive(1000000) = 0 envelope(0, 0) = 10000 envelope(1, 0) = 990000
            """);
    }

    private static void fill() {
        Script.run("Income: fill: all that is left is put there if the envelope has a cap, otherwise nothing", """
            addEnvelope(-1, 0) = 0 addRule(3, 0, 0) = 0
            receive(5) = 5 envelope(0, 0) = 0
            setCap(0, 0) = -1 receive(5) = 5 envelope(0, 0) = 0
            setCap(0, 1) = 0 receive(5) = 4 envelope(0, 0) = 1
            setCap(0, 10) = 1 receive(8) = 0 envelope(0, 0) = 9
            receive(2) = 1 envelope(0, 0) = 10
            setCap(0, -1) = 10 receive(7) = 7 envelope(0, 0) = 10
            """);
        Script.run("Income: fill, with nothing left", """
            addEnvelope(-1, 0) = 0 addEnvelope(50, 0) = 1 addRule(2, 0, 100) = 0 addRule(3, 1, 0) = 1
            receive(30) = 0 envelope(0, 0) = 30 envelope(1, 0) = 0
            """);
    }

    private static void shares() {
        Script.run("Income: share: the cents that remain go to these rules in their order, one to each",
            envelopes(3, "-1, 0") + """
            addRule(4, 0, 1) = 0 addRule(4, 1, 1) = 1 addRule(4, 2, 1) = 2
            receive(1) = 0 envelope(0, 0) = 1 envelope(1, 0) = 0 envelope(2, 0) = 0 undo() = 6
            receive(2) = 0 envelope(0, 0) = 1 envelope(1, 0) = 1 envelope(2, 0) = 0 undo() = 6
            receive(3) = 0 envelope(0, 0) = 1 envelope(1, 0) = 1 envelope(2, 0) = 1 undo() = 6
            receive(4) = 0 envelope(0, 0) = 2 envelope(1, 0) = 1 envelope(2, 0) = 1 undo() = 6
            receive(5) = 0 envelope(0, 0) = 2 envelope(1, 0) = 2 envelope(2, 0) = 1 undo() = 6
            receive(1000000) = 0 envelope(0, 0) = 333334 envelope(1, 0) = 333333 envelope(2, 0) = 333333
            """);
        Script.run("Income: share: in proportion to their numbers, rounded down", """
            addEnvelope(-1, 0) = 0 addEnvelope(-1, 0) = 1 addRule(4, 0, 99) = 0 addRule(4, 1, 1) = 1
            receive(1) = 0 envelope(0, 0) = 1 envelope(1, 0) = 0 undo() = 4
            receive(99) = 0 envelope(0, 0) = 99 envelope(1, 0) = 0 undo() = 4
            receive(100) = 0 envelope(0, 0) = 99 envelope(1, 0) = 1 undo() = 4
            receive(101) = 0 envelope(0, 0) = 100 envelope(1, 0) = 1 undo() = 4
            receive(1000000) = 0 envelope(0, 0) = 990000 envelope(1, 0) = 10000
            """);
        Script.run("Income: share, all six rules", envelopes(6, "-1, 0") + """
            addRule(4, 0, 1) = 0 addRule(4, 1, 2) = 1 addRule(4, 2, 3) = 2
            addRule(4, 3, 4) = 3 addRule(4, 4, 5) = 4 addRule(4, 5, 6) = 5
            # 0 1 2 3 4 5, and five cents
            receive(20) = 0 envelope(0, 0) = 1 envelope(1, 0) = 2 envelope(2, 0) = 3
            envelope(3, 0) = 4 envelope(4, 0) = 5 envelope(5, 0) = 5 undo() = 12
            # 0 0 0 0 1 1, and three cents
            receive(5) = 0 envelope(0, 0) = 1 envelope(1, 0) = 1 envelope(2, 0) = 1
            envelope(3, 0) = 0 envelope(4, 0) = 1 envelope(5, 0) = 1 undo() = 12
            receive(21) = 0 envelope(0, 0) = 1 envelope(1, 0) = 2 envelope(2, 0) = 3
            envelope(3, 0) = 4 envelope(4, 0) = 5 envelope(5, 0) = 6
            """);
        Script.run("Income: share, with nothing left there is no cent, either", envelopes(3, "-1, 0") + """
            addRule(0, 2, 100) = 0 addRule(4, 0, 7) = 1 addRule(4, 1, 5) = 2
            receive(100) = 0 envelope(0, 0) = 0 envelope(1, 0) = 0 envelope(2, 0) = 100 undo() = 6
            receive(101) = 0 envelope(0, 0) = 1 envelope(1, 0) = 0 envelope(2, 0) = 100
            """);
        Script.run("Income: share, a single one with the least and the greatest number takes all that is left", """
            addEnvelope(-1, 0) = 0 addRule(4, 0, 1) = 0 receive(1) = 0 receive(1000000) = 0
            removeRule(0) = 0 addRule(4, 0, 99) = 0 receive(1) = 0 receive(1000000) = 0 envelope(0, 0) = 2000002
            """);
    }

    private static void sharesThatDirectlyFollow() {
        Script.run("Income: share: the rules of kind 4 that directly follow one another are applied together", """
            addEnvelope(10, 0) = 0 addEnvelope(-1, 0) = 1 addEnvelope(-1, 0) = 2
            addRule(4, 0, 1) = 0 addRule(0, 2, 5) = 1 addRule(4, 0, 1) = 2 addRule(4, 1, 3) = 3
            # 10 of 100, 5 of 90, then 85 as 21 and 63 and a cent, where 22 do not fit
            receive(100) = 22 envelope(0, 0) = 10 envelope(1, 0) = 63 envelope(2, 0) = 5 undo() = 7
            # with the rule between them gone, 100 are 20, 20 and 60, and the cap takes 10
            removeRule(1) = 3
            receive(100) = 30 envelope(0, 0) = 10 envelope(1, 0) = 60 envelope(2, 0) = 0
            """);
        Script.run("Income: share: rules of other kinds ahead and behind have no part of it", envelopes(3, "-1, 0") + """
            addRule(0, 2, 4) = 0 addRule(4, 0, 1) = 1 addRule(4, 1, 1) = 2 addRule(2, 2, 50) = 3 addRule(0, 2, 9) = 4
            receive(9) = 0 envelope(0, 0) = 3 envelope(1, 0) = 2 envelope(2, 0) = 4
            """);
        Script.run("Income: share: what is left when the first of them is reached is divided", """
            addEnvelope(10, 0) = 0 addEnvelope(-1, 0) = 1 addRule(4, 0, 1) = 0 addRule(4, 1, 1) = 1
            receive(100) = 40 envelope(0, 0) = 10 envelope(1, 0) = 50
            """);
    }

    private static void whatIsLeft() {
        Script.run("Income: what does not fit into an envelope remains left for the rules behind", """
            addEnvelope(30, 0) = 0 addEnvelope(-1, 0) = 1 addRule(0, 0, 100) = 0 addRule(2, 1, 50) = 1
            receive(100) = 35 envelope(0, 0) = 30 envelope(1, 0) = 35
            """);
        Script.run("Income: also what does not fit of a share", """
            addEnvelope(10, 0) = 0 addEnvelope(-1, 0) = 1 addEnvelope(-1, 0) = 2
            addRule(4, 0, 1) = 0 addRule(4, 1, 1) = 1 addRule(0, 2, 100) = 2
            receive(100) = 0 envelope(0, 0) = 10 envelope(1, 0) = 50 envelope(2, 0) = 40
            """);
        Script.run("Income: what is left behind all rules comes to the pool", """
            receive(1) = 1 receive(1000000) = 1000000 total(0) = 1000001
            addEnvelope(-1, 0) = 0 addRule(1, 0, 50) = 0
            receive(1) = 1 receive(2) = 1 total(0) = 1000003 envelope(0, 0) = 1
            """);
    }

    private static void spending() {
        Script.run("Spending: it is taken from its balance, and what is missing there from the pool", """
            addEnvelope(-1, 0) = 0 addEnvelope(-1, 0) = 1 receive(100) = 100 move(-1, 0, 60) = 60
            spend(0, 59) = 0 envelope(0, 0) = 1 envelope(0, 4) = 59 total(0) = 40 undo() = 4
            spend(0, 60) = 0 envelope(0, 0) = 0 envelope(0, 4) = 60 total(0) = 40 undo() = 4
            spend(0, 61) = 1 envelope(0, 0) = 0 envelope(0, 4) = 60 total(0) = 39 undo() = 4
            spend(1, 40) = 40 envelope(1, 4) = 0 total(0) = 0 envelope(0, 0) = 60
            """);
        Script.run("Spending: if that is not enough, it cannot be spent", """
            addEnvelope(-1, 0) = 0 addEnvelope(-1, 0) = 1
            spend(0, 1) = throws.State4
            receive(100) = 100 move(-1, 0, 60) = 60
            spend(1, 41) = throws.State4 spend(0, 101) = throws.State4
            spend(0, 100) = 40 total(0) = 0 total(3) = 100
            spend(0, 1) = throws.State4
            """);
    }

    private static void links() {
        Script.run("Links: if the balance of the first one is greater than the threshold", """
            addEnvelope(-1, 0) = 0 addEnvelope(-1, 0) = 1 receive(500) = 500 addLink(0, 1, 100, 100) = 0
            move(-1, 0, 99) = 99 link(0, 4) = 0 undo() = 4
            move(-1, 0, 100) = 100 link(0, 4) = 0 undo() = 4
            move(-1, 0, 101) = 101 link(0, 4) = 1 envelope(0, 0) = 100 envelope(1, 0) = 1
            """);
        Script.run("Links: the difference times the percentage, divided by 100, rounded down", """
            addEnvelope(-1, 0) = 0 addEnvelope(-1, 0) = 1 receive(500) = 500 addLink(0, 1, 10, 1) = 0
            move(-1, 0, 109) = 109 link(0, 4) = 0 undo() = 4
            move(-1, 0, 110) = 110 link(0, 4) = 1 undo() = 4
            move(-1, 0, 209) = 209 link(0, 4) = 1 undo() = 4
            removeLink(0) = 0 addLink(0, 1, 10, 99) = 0
            move(-1, 0, 11) = 11 link(0, 4) = 0 undo() = 6
            move(-1, 0, 12) = 12 link(0, 4) = 1 undo() = 6
            move(-1, 0, 110) = 110 link(0, 4) = 99
            """);
        Script.run("Links: a threshold of 0", """
            addEnvelope(-1, 0) = 0 addEnvelope(-1, 0) = 1 addLink(0, 1, 0, 100) = 0
            receive(1) = 1 link(0, 4) = 0
            move(-1, 0, 1) = 1 link(0, 4) = 1 envelope(0, 0) = 0 envelope(1, 0) = 1
            """);
        Script.run("Links: a threshold of 9000000", """
            addEnvelope(-1, 0) = 0 addEnvelope(-1, 0) = 1 addRule(0, 0, 1000000) = 0 addLink(0, 1, 9000000, 100) = 0
            9x receive(1000000) = 0
            envelope(0, 0) = 9000000 link(0, 4) = 0
            receive(1) = 0 envelope(0, 0) = 9000000 link(0, 4) = 1
            """);
    }

    private static void settling() {
        Script.run("Links: gone through again and again: six links against their order", envelopes(7, "-1, 0") + """
            receive(10) = 10
            addLink(5, 6, 0, 100) = 0 addLink(4, 5, 0, 100) = 1 addLink(3, 4, 0, 100) = 2
            addLink(2, 3, 0, 100) = 3 addLink(1, 2, 0, 100) = 4 addLink(0, 1, 0, 100) = 5
            move(-1, 0, 10) = 10
            envelope(0, 0) = 0 envelope(5, 0) = 0 envelope(6, 0) = 10 total(6) = 60
            link(0, 4) = 10 link(5, 4) = 10
            """);
        Script.run("Links: in ascending order", envelopes(3, "-1, 0") + """
            receive(10) = 10 addLink(0, 1, 0, 50) = 0 addLink(0, 2, 0, 50) = 1
            move(-1, 0, 10) = 10 envelope(0, 0) = 3 envelope(1, 0) = 5 envelope(2, 0) = 2
            """);
        Script.run("Links: one that has passed on an amount above 0 does so no more in this settling", """
            addEnvelope(-1, 0) = 0 addEnvelope(-1, 0) = 1 receive(10) = 10
            addLink(0, 1, 0, 100) = 0 addLink(1, 0, 0, 100) = 1
            move(-1, 0, 8) = 8 envelope(0, 0) = 8 envelope(1, 0) = 0 total(6) = 16
            receive(1) = 1 envelope(0, 0) = 8 envelope(1, 0) = 0 total(6) = 32
            """);
        Script.run("Links: also if it has passed on a part, and more would fit later", """
            addEnvelope(-1, 0) = 0 addEnvelope(5, 0) = 1 addEnvelope(-1, 0) = 2 receive(10) = 10
            addLink(0, 1, 0, 100) = 0 addLink(1, 2, 0, 100) = 1
            move(-1, 0, 8) = 8 envelope(0, 0) = 3 envelope(1, 0) = 0 envelope(2, 0) = 5
            receive(1) = 1 envelope(0, 0) = 0 envelope(1, 0) = 0 envelope(2, 0) = 8
            """);
        Script.run("Links: one that could not pass on as nothing fits may do so in a later round", """
            addEnvelope(-1, 0) = 0 addEnvelope(5, 0) = 1 addEnvelope(-1, 0) = 2 receive(10) = 10 move(-1, 1, 5) = 5
            addLink(0, 1, 0, 100) = 0 addLink(1, 2, 0, 100) = 1
            move(-1, 0, 3) = 3 envelope(0, 0) = 0 envelope(1, 0) = 3 envelope(2, 0) = 5
            """);
        Script.run("Links: one that could not pass on as its part is rounded down to 0 may do so in a later round",
            envelopes(3, "-1, 0") + """
            receive(2) = 2 addLink(0, 1, 0, 50) = 0 addLink(2, 0, 0, 100) = 1
            move(-1, 0, 1) = 1 total(6) = 0
            move(-1, 2, 1) = 1 envelope(0, 0) = 1 envelope(1, 0) = 1 envelope(2, 0) = 0 total(6) = 2
            """);
    }

    private static void items() {
        Script.run("Items: a period from 1 to 60 days, due for the first time as many days after it was added", """
            addItem(0, 0, 5, 1) = 0 addItem(0, 0, 700, 60) = 1
            item(0, 4) = 1 item(1, 4) = 60
            advance(1) = 0 total(2) = 5 item(0, 4) = 2
            advance(58) = 0 total(2) = 295 item(0, 4) = 60 item(1, 4) = 60
            advance(1) = 0 total(2) = 1000 item(0, 4) = 61 item(1, 4) = 120
            advance(59) = 0 total(2) = 1295 item(1, 4) = 120
            advance(1) = 0 total(2) = 2000 item(1, 4) = 180
            """);
        Script.run("Items: as many days after the day on which it was added", """
            advance(3) = 0 addItem(0, 0, 5, 4) = 0 item(0, 4) = 7
            advance(3) = 0 total(2) = 0 advance(1) = 0 total(2) = 5 item(0, 4) = 11
            advance(3) = 0 total(2) = 5 advance(1) = 0 total(2) = 10
            """);
        Script.run("Items: the envelope does not matter for an income", """
            addItem(0, 0, 9, 1) = 0 advance(1) = 0 total(0) = 9
            addEnvelope(-1, 0) = 0 advance(1) = 0 total(0) = 18 envelope(0, 0) = 0
            """);
        Script.run("Items: the least and the greatest amount", """
            addEnvelope(-1, 0) = 0
            addItem(0, 0, 1, 1) = 0 addItem(0, 0, 1000000, 1) = 1 addItem(1, 0, 1, 1) = 2 addItem(1, 0, 1000000, 1) = 3
            advance(1) = 0 total(0) = 0 total(2) = 1000001 total(3) = 1000001
            """);
    }

    private static void missedItems() {
        Script.run("Days: an expense is spent; if it cannot be spent, it is missed", """
            addEnvelope(-1, 0) = 0 receive(100) = 100 move(-1, 0, 60) = 60
            addItem(1, 0, 100, 5) = 0 advance(5) = 0
            envelope(0, 0) = 0 envelope(0, 4) = 60 total(0) = 0 total(3) = 100 total(4) = 0 item(0, 5) = 0
            undo() = 4 undo() = 3
            addItem(1, 0, 101, 5) = 0 advance(5) = 1
            envelope(0, 0) = 60 envelope(0, 4) = 0 total(0) = 40 total(3) = 0 total(4) = 1
            item(0, 4) = 10 item(0, 5) = 1
            advance(4) = 0 receive(1) = 1 advance(1) = 0 total(0) = 0 total(3) = 101 item(0, 5) = 1
            """);
    }

    private static void days() {
        Script.run("Days: if the day is a multiple of 30, the envelopes are rolled over", """
            addEnvelope(-1, 1) = 0 receive(100) = 100 move(-1, 0, 10) = 10
            advance(29) = 0 total(5) = 29 envelope(0, 0) = 10
            advance(1) = 0 total(5) = 30 envelope(0, 0) = 0 total(7) = 10 total(0) = 100
            move(-1, 0, 20) = 20 advance(1) = 0 envelope(0, 0) = 20 advance(28) = 0 envelope(0, 0) = 20
            advance(1) = 0 total(5) = 60 envelope(0, 0) = 0 total(7) = 30
            advance(59) = 0 total(5) = 119 move(-1, 0, 5) = 5 advance(1) = 0 envelope(0, 0) = 0 total(7) = 35
            """);
        Script.run("Days: 60 days roll over twice, wherever they begin", """
            addEnvelope(-1, 2) = 0 receive(160) = 160 move(-1, 0, 160) = 160
            advance(60) = 0 envelope(0, 0) = 40 total(7) = 120
            advance(29) = 0 envelope(0, 0) = 40
            advance(60) = 0 total(5) = 149 envelope(0, 0) = 10 total(7) = 150
            """);
        Script.run("Days: what they release comes to the pool, and settling follows, also when nothing is released", """
            addEnvelope(-1, 2) = 0 addEnvelope(-1, 0) = 1 receive(80) = 80 move(-1, 0, 80) = 80
            addLink(0, 1, 10, 50) = 0
            # 40 released, 15 of the other 40 passed on
            advance(30) = 0 total(0) = 40 envelope(0, 0) = 25 envelope(1, 0) = 15
            setRollover(0, 0) = 2 advance(29) = 0 envelope(0, 0) = 25
            advance(1) = 0 total(0) = 40 envelope(0, 0) = 18 envelope(1, 0) = 22 total(7) = 40
            """);
        Script.run("Days: all envelopes are rolled over ahead of the settling", """
            addEnvelope(-1, 1) = 0 addEnvelope(-1, 1) = 1 receive(50) = 50 move(-1, 0, 50) = 50
            addLink(0, 1, 0, 100) = 0 addLink(1, 0, 0, 100) = 1
            advance(30) = 0 total(0) = 50 total(6) = 0 total(7) = 50
            """);
        Script.run("Days: a day without an item that is not the 30th settles nothing", """
            addEnvelope(-1, 0) = 0 addEnvelope(-1, 0) = 1 receive(50) = 50 move(-1, 0, 50) = 50
            addLink(0, 1, 0, 100) = 0
            advance(29) = 0 envelope(0, 0) = 50 advance(1) = 0 envelope(0, 0) = 0 envelope(1, 0) = 50
            """);
    }

    private static void dueOnOneDay() {
        Script.run("Days: the items that are due on this day are carried out in ascending order", """
            addEnvelope(-1, 0) = 0
            addItem(1, 0, 10, 3) = 0 addItem(0, 0, 10, 3) = 1 addItem(1, 0, 10, 3) = 2
            advance(3) = 1 item(0, 5) = 1 item(2, 5) = 0 total(0) = 0
            """);
        Script.run("Days: settling follows each item, so that the next one meets what it left", """
            addEnvelope(-1, 0) = 0 addEnvelope(-1, 0) = 1 receive(10) = 10 move(-1, 0, 10) = 10
            addLink(0, 1, 0, 100) = 0 addItem(0, 0, 1, 2) = 0 addItem(1, 0, 5, 2) = 1
            # behind the income of 1 all 10 are in the other envelope
            advance(2) = 1 envelope(0, 0) = 0 envelope(1, 0) = 10 total(0) = 1
            undo() = 7 removeItem(0) = 1 addItem(0, 0, 1, 2) = 1
            advance(2) = 0 envelope(0, 0) = 0 envelope(1, 0) = 5 total(0) = 1
            """);
        Script.run("Days: settling follows no item that was missed", """
            addEnvelope(-1, 0) = 0 addEnvelope(-1, 0) = 1 receive(10) = 10 move(-1, 0, 10) = 10
            addLink(0, 1, 0, 100) = 0 addItem(1, 0, 11, 1) = 0
            advance(1) = 1 envelope(0, 0) = 10 envelope(1, 0) = 0
            addItem(1, 1, 1, 1) = 1
            # from the envelope without a balance nothing is paid, as the pool is empty, too
            advance(1) = 2 envelope(0, 0) = 10
            addItem(1, 0, 1, 1) = 2
            advance(1) = 2 envelope(0, 0) = 0 envelope(1, 0) = 9
            """);
        Script.run("Days: it is missed once more on each day on which it cannot be spent, in all numbers that tell of it", """
            addEnvelope(-1, 0) = 0 addItem(1, 0, 10, 3) = 0 addItem(1, 0, 20, 5) = 1
            advance(30) = 16 item(0, 5) = 10 item(1, 5) = 6 total(4) = 16
            forecast(15, 4) = 24 forecast(2, 4) = 16 forecast(2, 9) = 0 forecast(15, 9) = 3
            removeItem(0) = 1 item(0, 5) = 6 total(4) = 16
            advance(5) = 1 item(0, 5) = 7 total(4) = 17
            """);
        Script.run("Days: the number of items that were missed in these days", """
            addEnvelope(-1, 0) = 0 addItem(1, 0, 10, 1) = 0 addItem(1, 0, 10, 2) = 1
            advance(1) = 1 advance(1) = 2 advance(60) = 90 total(4) = 93 item(0, 5) = 62 item(1, 5) = 31
            receive(20) = 20 advance(1) = 0 advance(1) = 1 total(4) = 94
            """);
    }

    private static void greatSums() {
        String eightIncomes = """
            addItem(0, 0, 1000000, 1) = 0 addItem(0, 0, 1000000, 1) = 1 addItem(0, 0, 1000000, 1) = 2
            addItem(0, 0, 1000000, 1) = 3 addItem(0, 0, 1000000, 1) = 4 addItem(0, 0, 1000000, 1) = 5
            addItem(0, 0, 1000000, 1) = 6 addItem(0, 0, 1000000, 1) = 7
            """;
        Script.run("Plans: sums beyond an int: balances, what was received, passed on, released, and the pool", """
            fork() = 1
            addEnvelope(-1, 0) = 0 addEnvelope(-1, 1) = 1 addRule(0, 0, 1000000) = 0
            """ + eightIncomes + """
            5x advance(60) = 0
            envelope(0, 0) = 2400000000 total(1) = 2400000000 total(2) = 2400000000 total(0) = 0
            branch(0, 4) = 2400000000 difference(0, 1, 0) = 2400000000 difference(1, 0, 0) = -2400000000
            daysUntil(0, 9000000) = 0 forecast(200, 1) = 4000000000 forecast(200, 2) = 4000000000
            setCap(0, 9000000) = -1 envelope(0, 3) = 0 setCap(0, -1) = 9000000
            addLink(0, 1, 9000000, 100) = 0 receive(1) = 0
            link(0, 4) = 2391000001 total(6) = 2391000001 envelope(0, 0) = 9000000 envelope(1, 0) = 2391000001
            # 30 days with 8000000 each, all of it passed on, then all released
            advance(30) = 0 total(5) = 330
            total(0) = 2631000001 total(6) = 2631000001 total(7) = 2631000001 branch(0, 3) = 2631000001
            difference(0, 1, -1) = 2631000001 difference(1, 0, -1) = -2631000001
            # six times 240000000 until day 510
            forecast(200, 0) = 4071000001 forecast(200, 7) = 4071000001 forecast(200, 8) = 2631000001
            savedShare() = 1.0 spare(0, 60) = 1000000 spend(1, 1000000) = 1000000 total(0) = 2630000001
            """);
        Script.run("Plans: sums beyond an int: what was spent", """
            addEnvelope(-1, 0) = 0 addRule(0, 0, 1000000) = 0
            addItem(0, 0, 1000000, 1) = 0 addItem(0, 0, 1000000, 1) = 1 addItem(0, 0, 1000000, 1) = 2
            addItem(0, 0, 1000000, 1) = 3 addItem(1, 0, 1000000, 1) = 4 addItem(1, 0, 1000000, 1) = 5
            addItem(1, 0, 1000000, 1) = 6 addItem(1, 0, 1000000, 1) = 7
            9x advance(60) = 0
            total(2) = 2160000000 total(3) = 2160000000 envelope(0, 4) = 2160000000 total(0) = 0 total(1) = 0
            savedShare() = 0.0 forecast(200, 3) = 2960000000
            receive(1000000) = 0 savedShare() = 1000000/2161000000
            """);
        Script.run("Links: a difference that comes beyond an int when it is multiplied", """
            addEnvelope(-1, 0) = 0 addEnvelope(-1, 0) = 1 addRule(0, 0, 1000000) = 0
            22x receive(1000000) = 0 addLink(0, 1, 0, 100) = 0
            receive(1) = 0 link(0, 4) = 22000001 envelope(0, 0) = 0 envelope(1, 0) = 22000001
            """);
    }
}
