/** Promises 24 to 28: what would be. */
final class WhatIfTest {
    private static final Due DUE = new Due("WhatIfTest");

    public static void main(String[] args) {
        ifPan();
        ifServed();
        slack();
        slackOfAnotherOrder();
        bestRule();
        bestServings();
        nothingChanges();
        DUE.end();
    }

    /** Promise 24. */
    private static void ifPan() {
        SpoonCards x = Cards.of("Cs0500s0500s0500s0500s0530s0640n0504k30");
        DUE.answer("the whole", 26, () -> x.about(5));
        DUE.answer("ifPan(0, 0)", 12, () -> x.ifPan(0, 0));
        DUE.answer("ifPan(0, 1)", 2, () -> x.ifPan(0, 1));
        DUE.answer("ifPan(1, 0)", 26, () -> x.ifPan(1, 0));
        DUE.answer("ifPan(3, 0)", 26, () -> x.ifPan(3, 0));
        DUE.answer("ifPan(3, 1)", 0, () -> x.ifPan(3, 1));
        x.pans(0, 3);
        DUE.answer("the whole with 3 pieces", 12, () -> x.about(5));
        DUE.answer("ifPan(0, 0) with 3 pieces", 5, () -> x.ifPan(0, 0));
        DUE.answer("ifPan(3, 0) with 3 pieces", 12, () -> x.ifPan(3, 0));
        DUE.noPlace("ifPan(-1, 2)", x, () -> x.ifPan(-1, 2));
        DUE.noPlace("ifPan(4, 0)", x, () -> x.ifPan(4, 0));
        DUE.badArgument("ifPan(0, -1)", x, () -> x.ifPan(0, -1));
        DUE.badArgument("ifPan(0, 2)", x, () -> x.ifPan(0, 2));
        DUE.answer("ifPan(2, 0) without steps", 0, () -> new SpoonCards().ifPan(2, 0));
    }

    /** 7 grains for 4: scaled to 1, 3, 5, 7, 8, 10, 12 for 1 to 7, and rounded to 6 or 12. */
    private static SpoonCards sevenGrains() {
        SpoonCards x = new SpoonCards();
        x.ingredient(7);
        return x;
    }

    /** Promise 25. */
    private static void ifServed() {
        SpoonCards x = sevenGrains();
        int[] off = {5, 3, 1, 1, 2, 2, 0};
        int[] spoons = {1, 1, 1, 1, 1, 2, 2};
        for (int wanted = 1; wanted <= 7; wanted++) {
            int w = wanted;
            DUE.answer("ifServed(" + w + ", 0)", spoons[w - 1], () -> x.ifServed(w, 0));
            DUE.answer("ifServed(" + w + ", 1)", off[w - 1], () -> x.ifServed(w, 1));
        }
        DUE.answer("ifServed(24, 1)", 0, () -> x.ifServed(24, 1));
        x.servings(24, 9);
        DUE.answer("ifServed(24, 1) with 24 of the card", 1, () -> x.ifServed(24, 1));
        x.servings(4, 9);
        x.ingredient(8);
        x.ingredient(11);
        // one grain too few, two too few, one too many
        DUE.answer("ifServed(4, 1), without signs", 4, () -> x.ifServed(4, 1));
        DUE.answer("ifServed(4, 0) of all", 4, () -> x.ifServed(4, 0));
        DUE.badArgument("ifServed(0, 0)", x, () -> x.ifServed(0, 0));
        DUE.badArgument("ifServed(25, 0)", x, () -> x.ifServed(25, 0));
        DUE.badArgument("ifServed(4, -1)", x, () -> x.ifServed(4, -1));
        DUE.badArgument("ifServed(4, 2)", x, () -> x.ifServed(4, 2));
        DUE.answer("ifServed(1, 1) without ingredients", 0, () -> new SpoonCards().ifServed(1, 1));
    }

    private static void slacks(String text, int... want) {
        SpoonCards x = Cards.of(text);
        for (int k = 0; k < want.length; k++) {
            int s = k;
            DUE.answer("slack(" + s + ") of " + text, want[s], () -> x.slack(s));
        }
        DUE.noPlace("slack(-1)", x, () -> x.slack(-1));
        DUE.noPlace("slack(" + want.length + ")", x, () -> x.slack(want.length));
    }

    /** Promise 26. */
    private static void slack() {
        slacks("C");
        slacks("Cs1040s0440", 0, 6);
        slacks("Cs9040s3040s3140s2940s0140", 0, 60, 59, 60, 60);
        slacks("Cs9040s2040s8540n0100", 0, 0, 25);
        slacks("Cs9040s9040s9040n0100n0200", 0, 0, 0);
        slacks("Cs9040s0540s9040n0200", 0, 60, 0);
        slacks("Cs1040s0430s0540n0201k30", 0, -1, -1);
        // the pan is washed 2 minutes: the first step may not take longer, nor may the other one
        slacks("Cs0500s0500s1240", 0, 0, 0);
        slacks("Cs0500s0500s1740", 5, 5, 0);
    }

    /**
     * By rule 1, 7 minutes for the step 1 leave it behind the step 0, and all takes 18 minutes; with 8 it goes
     * first, and all takes 17 again. So one minute more is too much, though two are not.
     */
    private static void slackOfAnotherOrder() {
        String text = "Cs0741s0601s0201r1";
        SpoonCards x = Cards.of(text);
        DUE.answer("the whole", 17, () -> x.about(5));
        DUE.answer("slack(1) by another order", 0, () -> x.slack(1));
        x.minutes(1, 7);
        DUE.answer("the whole with one minute more", 18, () -> x.about(5));
        x.minutes(1, 8);
        DUE.answer("the whole with two minutes more", 17, () -> x.about(5));
    }

    private static void bestRuleOf(String text, int want) {
        for (int rule = 0; rule < 4; rule++) {
            SpoonCards x = Cards.of(text + "r" + rule);
            DUE.answer("bestRule() of " + text + "r" + rule, want, () -> x.bestRule());
            int own = rule;
            DUE.answer("bestRule() keeps the rule", own, () -> x.setting(4));
        }
    }

    /** Promise 27. */
    private static void bestRule() {
        bestRuleOf("C", 0);
        bestRuleOf("Cs0541s0641", 0);
        bestRuleOf("Cs0541k00s0501", 0);
        // one cook: the step without hands had better begin early
        bestRuleOf("Cs0541s0241s2040n0201", 2);
        bestRuleOf("Cs2041s0241s0540n0201", 3);
        // two stuck steps by each rule, and the third rule is the best one for the others
        bestRuleOf("Cs0541s0241s2040n0201k00s0500s0500", 2);
        SpoonCards y = new SpoonCards();
        y.step(5, -1, true);
        y.step(2, -1, true);
        y.step(20, -1, false);
        y.need(2, 1, true);
        DUE.answer("bestRule() behind actions", 2, () -> y.bestRule());
        y.need(2, 1, false);
        DUE.answer("bestRule() behind one more", 0, () -> y.bestRule());
        // two pieces of the pan, not washed: the long one first
        SpoonCards x = Cards.of("Cs0300s0300s0600k02");
        x.set(2, 0);
        DUE.answer("bestRule() of two pieces", 1, () -> x.bestRule());
        x.set(4, 3);
        DUE.answer("the whole by rule 3", 9, () -> x.about(5));
        x.set(4, 1);
        DUE.answer("the whole by rule 1", 6, () -> x.about(5));
    }

    /** Promise 28. */
    private static void bestServings() {
        SpoonCards x = sevenGrains();
        x.servings(4, 20);
        DUE.answer("bestServings(1, 6), of two the fewest", 3, () -> x.bestServings(1, 6));
        DUE.answer("bestServings(4, 6)", 4, () -> x.bestServings(4, 6));
        DUE.answer("bestServings(5, 6), of two the fewest", 5, () -> x.bestServings(5, 6));
        DUE.answer("bestServings(1, 24)", 7, () -> x.bestServings(1, 24));
        DUE.answer("bestServings(1, 7)", 7, () -> x.bestServings(1, 7));
        DUE.answer("bestServings(2, 2)", 2, () -> x.bestServings(2, 2));
        DUE.answer("bestServings(24, 24)", 24, () -> x.bestServings(24, 24));
        DUE.badArgument("bestServings(0, 4)", x, () -> x.bestServings(0, 4));
        DUE.badArgument("bestServings(1, 25)", x, () -> x.bestServings(1, 25));
        DUE.badArgument("bestServings(5, 4)", x, () -> x.bestServings(5, 4));
        DUE.badArgument("bestServings(25, 25)", x, () -> x.bestServings(25, 25));
        DUE.answer("bestServings without ingredients", 3, () -> new SpoonCards().bestServings(3, 9));
    }

    private static void nothingChanges() {
        SpoonCards x = Cards.of("Ci01pi02+1/2ts0501s0620s0700n0100u0000r1v05");
        x.pans(0, 2);
        String before = Look.at(x);
        x.ifPan(0, 0);
        x.ifPan(0, 1);
        x.ifServed(9, 0);
        x.ifServed(9, 1);
        x.slack(0);
        x.slack(1);
        x.bestRule();
        x.bestServings(6, 9);
        DUE.text("what would be changes nothing", before, Look.at(x));
        DUE.answer("undo() behind it", 0, () -> x.undo());
    }
}
