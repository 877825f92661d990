/** The edges of amounts, of the plan and of what would be: the last number on one side, and the first on the other. */
final class EdgesTest {
    private static final Due DUE = new Due("EdgesTest");
    private static final int NONE = SpoonCards.NONE;
    private static final int[] GRAINS = {6, 48, 144, 2304};

    public static void main(String[] args) {
        scaledAmounts();
        roundedAmounts();
        spoonsThatJustGoIn();
        endAndBegin();
        washedAndBegin();
        pansAndSteps();
        cooksAndSteps();
        stuckSteps();
        firstByTheRule();
        minutesOfThePlan();
        slacks();
        slackAboveNinety();
        slackOfAShorterWhole();
        servingsThatAreBest();
        scriptsThatJustSucceed();
        DUE.end();
    }

    private static SpoonCards amount(int grains) {
        SpoonCards x = new SpoonCards();
        x.ingredient(grains);
        return x;
    }

    private static void scaled(int grains, int card, int wanted, int want) {
        SpoonCards x = amount(grains);
        x.servings(card, wanted);
        DUE.answer(grains + " grains for " + wanted + " of " + card, want, () -> x.ingredientOf(0, 1));
    }

    /** "the amount * the wanted servings / the servings of the card, but at least 1", rounded down. */
    private static void scaledAmounts() {
        scaled(1, 24, 1, 1);
        scaled(23, 24, 1, 1);
        scaled(24, 24, 1, 1);
        scaled(25, 24, 1, 1);
        scaled(47, 24, 1, 1);
        scaled(48, 24, 1, 2);
        scaled(1, 1, 1, 1);
        scaled(1, 3, 2, 1);
        scaled(2, 3, 2, 1);
        scaled(3, 3, 2, 2);
        scaled(1, 1, 24, 24);
        scaled(1, 24, 24, 1);
        scaled(1, 23, 24, 1);
        scaled(22, 23, 24, 22);
        scaled(23, 23, 24, 24);
        scaled(50000, 24, 1, 2083);
        scaled(50000, 1, 24, 1200000);
        scaled(50000, 24, 24, 50000);
    }

    private static void rounded(int kitchen, int rounding, int grains, int want) {
        SpoonCards x = amount(grains);
        x.set(0, kitchen);
        x.set(1, rounding);
        String name = grains + " grains in the kitchen " + kitchen + ", rounding " + rounding;
        DUE.answer(name, want, () -> x.ingredientOf(0, 2));
        DUE.answer(name + ", less the scaled ones", want - grains, () -> x.ingredientOf(0, 4));
        DUE.answer(name + ", without signs", Math.abs(want - grains), () -> x.ifServed(4, 1));
    }

    /** Of each set of measures the least one counts; "but at least 1 of that measure". */
    private static void roundedAmounts() {
        for (int kitchen = 1; kitchen <= 15; kitchen++) {
            int one = GRAINS[Integer.numberOfTrailingZeros(kitchen)];
            for (int rounding = 0; rounding < 3; rounding++) {
                rounded(kitchen, rounding, 1, one);
                rounded(kitchen, rounding, one / 2 - 1, one);
                rounded(kitchen, rounding, one, one);
                rounded(kitchen, rounding, one + 1, rounding == 2 ? 2 * one : one);
                rounded(kitchen, rounding, one + one / 2 - 1, rounding == 2 ? 2 * one : one);
                rounded(kitchen, rounding, one + one / 2, rounding == 0 ? one : 2 * one);
                rounded(kitchen, rounding, one + one / 2 + 1, rounding == 0 ? one : 2 * one);
                rounded(kitchen, rounding, 2 * one - 1, rounding == 0 ? one : 2 * one);
                rounded(kitchen, rounding, 2 * one, 2 * one);
                rounded(kitchen, rounding, 20 * one, 20 * one);
            }
        }
    }

    private static void spoons(int kitchen, int grains, int... want) {
        SpoonCards x = amount(grains);
        x.set(0, kitchen);
        DUE.each(grains + " grains in the kitchen " + kitchen, 4, measure -> want[measure], measure -> x.spoons(0, measure));
        int all = want[0] + want[1] + want[2] + want[3];
        DUE.answer("all spoons of " + grains + " grains in the kitchen " + kitchen, all, () -> x.ingredientOf(0, 3));
    }

    /** "as many of the greatest measure that the kitchen has as go into the rounded amount, then of the next one". */
    private static void spoonsThatJustGoIn() {
        spoons(15, 6, 1, 0, 0, 0);
        spoons(15, 42, 7, 0, 0, 0);
        spoons(15, 48, 0, 1, 0, 0);
        spoons(15, 138, 7, 2, 0, 0);
        spoons(15, 144, 0, 0, 1, 0);
        spoons(15, 2298, 7, 2, 15, 0);
        spoons(15, 2304, 0, 0, 0, 1);
        spoons(15, 4602, 7, 2, 15, 1);
        spoons(15, 4608, 0, 0, 0, 2);
        spoons(1, 2304, 384, 0, 0, 0);
        spoons(2, 2304, 0, 48, 0, 0);
        spoons(3, 2298, 7, 47, 0, 0);
        spoons(4, 2304, 0, 0, 16, 0);
        spoons(5, 2298, 23, 0, 15, 0);
        spoons(6, 2256, 0, 2, 15, 0);
        spoons(7, 4602, 7, 2, 31, 0);
        spoons(8, 2304, 0, 0, 0, 1);
        spoons(9, 4602, 383, 0, 0, 1);
        spoons(10, 4560, 0, 47, 0, 1);
        spoons(11, 4602, 7, 47, 0, 1);
        spoons(12, 4464, 0, 0, 15, 1);
        spoons(13, 4602, 23, 0, 15, 1);
        spoons(14, 4560, 0, 2, 15, 1);
    }

    /** "first the steps whose end it is are done. Then, as long as any step can begin": all in the same minute. */
    private static void endAndBegin() {
        for (int minutes : new int[] {1, 2, 89, 90}) {
            SpoonCards x = new SpoonCards();
            x.step(minutes, NONE, true);
            x.step(7, NONE, true);
            x.step(7, NONE, false);
            x.need(2, 0, true);
            DUE.answer("end behind " + minutes, minutes, () -> x.stepOf(0, 8));
            DUE.answer("the cook is free behind " + minutes, minutes, () -> x.stepOf(1, 7));
            DUE.answer("what needs it begins behind " + minutes, minutes, () -> x.stepOf(2, 7));
            DUE.answer("the cook is busy before", 1, () -> x.during(minutes - 1, 0));
            DUE.answer("none is done before", 0, () -> x.during(minutes - 1, 9));
            DUE.answer("one is done", 1, () -> x.during(minutes, 9));
            DUE.answer("the whole behind " + minutes, minutes + 7, () -> x.about(5));
        }
    }

    /** "is washed from then on for as many minutes as setting 2": at its end the pan can be used, not before. */
    private static void washedAndBegin() {
        for (int kind = 0; kind < 4; kind++) {
            for (int washing : new int[] {0, 1, 2, 19, 20}) {
                SpoonCards x = new SpoonCards();
                x.step(5, kind, true);
                x.step(3, kind, false);
                x.step(3, NONE, true);
                x.set(2, washing);
                washed("kind " + kind + ", washed " + washing + ": ", x, kind, washing);
            }
        }
    }

    private static void washed(String name, SpoonCards x, int kind, int washing) {
        int some = washing == 0 ? 0 : 1;
        DUE.answer(name + "the pan can be used", 5 + washing, () -> x.stepOf(1, 7));
        DUE.answer(name + "the cook need not wait", 5, () -> x.stepOf(2, 7));
        DUE.answer(name + "in use before the end", 1, () -> x.during(4, 1 + kind));
        DUE.answer(name + "not washed before the end", 0, () -> x.during(4, 5 + kind));
        DUE.answer(name + "washed at the end", some, () -> x.during(5, 5 + kind));
        DUE.answer(name + "in use at the end", 1 - some, () -> x.during(5, 1 + kind));
        DUE.answer(name + "washed at last", some, () -> x.during(4 + washing, 5 + kind));
        DUE.answer(name + "washed no more", 0, () -> x.during(5 + washing, 5 + kind));
        DUE.answer(name + "in use again", 1, () -> x.during(5 + washing, 1 + kind));
        DUE.answer(name + "the whole, without the last washing", 8 + washing, () -> x.about(5));
    }

    /** As many steps begin at once as there are pieces of the kind; the pieces of other kinds do not help. */
    private static void pansAndSteps() {
        for (int kind = 0; kind < 4; kind++) {
            for (int pieces = 0; pieces <= 3; pieces++) {
                SpoonCards x = new SpoonCards();
                for (int other = 0; other < 4; other++) {
                    x.pans(other, other == kind ? pieces : 3);
                }
                for (int s = 0; s < 5; s++) {
                    x.step(10, kind, false);
                }
                String name = pieces + " pieces of the kind " + kind;
                int p = pieces;
                DUE.each(name, 5, s -> p == 0 ? NONE : s / p * 12, s -> x.stepOf(s, 7));
                int k = kind;
                DUE.answer(name + " in use", p, () -> x.during(0, 1 + k));
                DUE.answer(name + " washed", p, () -> x.during(11, 5 + k));
                DUE.answer(name + ", stuck", p == 0 ? 5 : 0, () -> x.about(6));
                DUE.answer(name + ", one more", 4 / (p + 1) * 12 + 10, () -> x.ifPan(k, 0));
                DUE.answer(name + ", stuck with one more", 0, () -> x.ifPan(k, 1));
                DUE.answer(name + ", one more of another kind", p == 0 ? 0 : 4 / p * 12 + 10, () -> x.ifPan((k + 1) % 4, 0));
                DUE.answer(name + ", stuck with that", p == 0 ? 5 : 0, () -> x.ifPan((k + 1) % 4, 1));
            }
        }
    }

    private static void cooksAndSteps() {
        for (int cooks = 1; cooks <= 3; cooks++) {
            SpoonCards x = new SpoonCards();
            x.set(3, cooks);
            for (int s = 0; s < 4; s++) {
                x.step(10, NONE, true);
            }
            x.step(10, NONE, false);
            int c = cooks;
            DUE.each("cooks " + c, 4, s -> s / c * 10, s -> x.stepOf(s, 7));
            DUE.answer("without hands no cook is asked for", 0, () -> x.stepOf(4, 7));
            DUE.answer("busy cooks of " + c, c, () -> x.during(9, 0));
            DUE.answer("done by the minute 10 with cooks " + c, c + 1, () -> x.during(10, 9));
        }
    }

    /** "Steps that cannot begin any more are stuck": and those that need one, but no others. */
    private static void stuckSteps() {
        SpoonCards x = Cards.of("Cs0501s0531s0540s0540s0540n0201n0302k30");
        int[] begins = {0, NONE, NONE, NONE, 0};
        int[] ends = {5, NONE, NONE, NONE, 5};
        DUE.each("begin", 5, s -> begins[s], s -> x.stepOf(s, 7));
        DUE.each("end", 5, s -> ends[s], s -> x.stepOf(s, 8));
        DUE.answer("stuck steps", 3, () -> x.about(6));
        DUE.answer("the second place", 4, () -> x.begun(1));
        DUE.noPlace("a third place", x, () -> x.begun(2));
        DUE.each("slack", 4, s -> s == 0 ? 0 : NONE, s -> x.slack(s));
        DUE.answer("stuck with one piece", 0, () -> x.ifPan(3, 1));
        DUE.answer("done at last", 2, () -> x.during(1500, 9));
        x.pans(3, 1);
        DUE.answer("no stuck steps", 0, () -> x.about(6));
        DUE.answer("the last of them", 15, () -> x.stepOf(3, 7));
        DUE.answer("its slack then", 0, () -> x.slack(3));
    }

    private static void first(int rule, String steps, int want) {
        SpoonCards x = Cards.of("C" + steps + "r" + rule);
        DUE.answer("the first of " + steps + " by the rule " + rule, want, () -> x.begun(0));
    }

    /** "of several the lowest number": alike, and differing by one. */
    private static void firstByTheRule() {
        for (int rule = 0; rule < 4; rule++) {
            first(rule, "s0541s0541", 0);
            first(rule, "s0541s0541s0541", 0);
        }
        first(0, "s0541s0641", 0);
        first(1, "s0541s0641", 1);
        first(1, "s0541s0641s0641", 1);
        first(1, "s0641s0541", 0);
        first(2, "s0541s0641", 1);
        first(2, "s0541s0441s0141n0201", 0);
        first(2, "s0541s0441s0241n0201", 1);
        first(2, "s0541s0141s0141s0341n0201n0302", 0);
        first(2, "s0541s0141s0141s0441n0201n0302", 1);
        first(3, "s0541s0141s0141n0201", 1);
        first(3, "s0541s0141s0141s0141n0201n0300", 0);
        first(3, "s0541s0141s0141s0141s0141n0201n0300n0401", 1);
        first(3, "s0541s0141s0141s0141s0141n0201n0300n0403", 0);
    }

    /** A step that has hands and a pan is begun in the minute 3, and ends in the minute 7. */
    private static void minutesOfThePlan() {
        for (int kind = 0; kind < 4; kind++) {
            SpoonCards x = new SpoonCards();
            x.step(3, NONE, false);
            x.step(4, kind, true);
            x.need(1, 0, true);
            for (int minute = 0; minute <= 12; minute++) {
                int m = minute;
                for (int what = 0; what < 10; what++) {
                    boolean busy = m >= 3 && m < 7;
                    boolean washed = m >= 7 && m < 9;
                    int want = what == 9 ? m < 3 ? 0 : m < 7 ? 1 : 2
                        : (what == 0 || what == 1 + kind) && busy || what == 5 + kind && washed ? 1 : 0;
                    int w = what;
                    DUE.answer("kind " + kind + ": during(" + m + ", " + w + ")", want, () -> x.during(m, w));
                }
            }
        }
    }

    private static void slack(String text, int s, int want) {
        SpoonCards x = Cards.of(text);
        DUE.answer("slack(" + s + ") of " + text, want, () -> x.slack(s));
    }

    /** "the greatest number, 0 to 60". */
    private static void slacks() {
        slack("Cs0140", 0, 0);
        slack("Cs0140s0140", 0, 0);
        slack("Cs0140s0240", 0, 1);
        slack("Cs0140s6040", 0, 59);
        slack("Cs0140s6140", 0, 60);
        slack("Cs0140s6240", 0, 60);
        slack("Cs0140s9040", 0, 60);
        slack("Cs0140s0230k30", 0, 0);
        slack("Cs0140s0230k30", 1, NONE);
        slack("Cs0130k30", 0, NONE);
        slack("Cs0541s0541", 0, 0);
    }

    /** "also above 90". */
    private static void slackAboveNinety() {
        slack("Cs9040s9040s9040n0100", 2, 60);
        slack("Cs8940s9040s1040n0201", 0, 11);
        slack("Cs9040s9040s1040n0201", 0, 10);
        slack("Cs9040s9040s0140n0201", 0, 1);
        slack("Cs9040s9040", 0, 0);
        slack("Cs9040s9040s5940n0201", 0, 59);
        slack("Cs9040s9040s6040n0201", 0, 60);
        slack("Cs9040s9040s6140n0201", 0, 60);
        SpoonCards x = Cards.of("Cs9040s9040s6140n0201");
        DUE.answer("slack(0)", 60, () -> x.slack(0));
        DUE.answer("the minutes stay", 90, () -> x.stepOf(0, 0));
    }

    /** "no more minutes than now": fewer are as good; by rule 1 the step 1 is first if it has more minutes. */
    private static void slackOfAShorterWhole() {
        SpoonCards x = Cards.of("Cs0741s0701s0201r1");
        DUE.answer("slack(1), first a shorter whole", 2, () -> x.slack(1));
        int[] wholes = {18, 17, 18, 19};
        for (int more = 0; more < 4; more++) {
            x.minutes(1, 7 + more);
            DUE.answer("the whole with as many more: " + more, wholes[more], () -> x.about(5));
        }
    }

    /** "of the servings from least to most those with which ifServed(.., 1) is least, of several the fewest". */
    private static void servingsThatAreBest() {
        SpoonCards x = amount(12);
        x.servings(2, 2);
        // 6 grains a serving: none is off
        for (int least = 1; least <= 24; least++) {
            int from = least;
            DUE.answer("bestServings(" + from + ", 24), all as good", from, () -> x.bestServings(from, 24));
            DUE.answer("bestServings(" + from + ", " + from + ")", from, () -> x.bestServings(from, from));
        }
        // 1 grain a serving: 1 is off by 5, and 6, 12, 18 and 24 are not off
        SpoonCards y = amount(1);
        y.servings(1, 1);
        for (int least = 1; least <= 5; least++) {
            int from = least;
            DUE.answer("bestServings(" + from + ", next)", from + 1, () -> y.bestServings(from, from + 1));
        }
        DUE.answer("bestServings(1, 24)", 6, () -> y.bestServings(1, 24));
        DUE.answer("bestServings(1, 6)", 6, () -> y.bestServings(1, 6));
        DUE.answer("bestServings(1, 5)", 5, () -> y.bestServings(1, 5));
        DUE.answer("bestServings(7, 24)", 12, () -> y.bestServings(7, 24));
        DUE.answer("bestServings(18, 24)", 18, () -> y.bestServings(18, 24));
        DUE.answer("bestServings(19, 24)", 24, () -> y.bestServings(19, 24));
        DUE.answer("bestServings(19, 23)", 19, () -> y.bestServings(19, 23));
    }

    private static void script(String name, SpoonCards x, long script, boolean succeeds) {
        DUE.answer(name + ": runScript(1, " + script + ")", succeeds ? -1 : 0, () -> x.runScript(1, script));
    }

    private static void scriptsThatJustSucceed() {
        SpoonCards x = new SpoonCards();
        for (int s = 0; s < 12; s++) {
            x.step(s == 11 ? 9 : 90, NONE, true);
        }
        script("the whole of 999", x, 700999, true);
        script("the whole of 999", x, 700998, false);
        x.minutes(11, 10);
        script("the whole of 1000", x, 700999, false);
        x.minutes(0, 9);
        script("begun in the minute 99", x, 602990, true);
        script("begun in the minute 99", x, 602980, false);
        x.minutes(0, 10);
        script("begun in the minute 100", x, 602990, false);
        script("begun in the minute 0", x, 600000, true);
        script("the last step", x, 611990, false);
        script("minutes of the last step", x, 211900, true);
        script("minutes of no step", x, 212900, false);
        script("the last step needs the first one", x, 311001, true);
        script("the first one needs no step", x, 300121, false);
        SpoonCards y = new SpoonCards();
        y.set(0, 1);
        y.ingredient(594);
        y.ingredient(600);
        script("99 spoons", y, 800099, true);
        script("99 spoons", y, 800098, false);
        script("100 spoons", y, 801099, false);
        script("no ingredient", y, 802099, false);
        SpoonCards z = new SpoonCards();
        z.pans(0, 0);
        for (int s = 0; s < 9; s++) {
            z.step(5, 0, false);
        }
        script("9 stuck steps", z, 900009, true);
        script("9 stuck steps", z, 900008, false);
        z.step(5, 0, false);
        script("10 stuck steps", z, 900009, false);
        script("a stuck step has no begin", z, 609990, false);
        script("the whole of 0", z, 700000, true);
    }
}
