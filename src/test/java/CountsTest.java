import java.util.function.IntUnaryOperator;

/** Promises 6 to 13: what there is. */
final class CountsTest {
    private static final Due DUE = new Due("CountsTest");

    public static void main(String[] args) {
        about();
        ingredientOf();
        rounding();
        spoons();
        stepOf();
        begunByRules();
        begunOfOneMinute();
        washing();
        piecesAndSetting();
        during();
        cooks();
        wrongPlaces();
        DUE.end();
    }

    private static void row(String name, int[] want, IntUnaryOperator got) {
        DUE.each(name, want.length, k -> want[k], got);
    }

    /** The steps of a plan in their order, each with its begin and end; no step is begun behind them. */
    private static void plan(String name, SpoonCards x, int[][] want) {
        for (int k = 0; k < want.length; k++) {
            int place = k;
            int s = want[k][0];
            DUE.answer(name + ": begun(" + k + ")", s, () -> x.begun(place));
            DUE.answer(name + ": begin of " + s, want[k][1], () -> x.stepOf(s, 7));
            DUE.answer(name + ": end of " + s, want[k][2], () -> x.stepOf(s, 8));
        }
        DUE.noPlace(name + ": begun(" + want.length + ")", x, () -> x.begun(want.length));
    }

    /** Two of five steps are stuck: 3 has no pan, and 4 needs it. */
    private static SpoonCards example() {
        SpoonCards x = new SpoonCards();
        x.ingredient(100);
        x.ingredient(2448);
        x.step(10, 0, true);
        x.step(20, -1, false);
        x.step(15, 0, true);
        x.step(5, 3, true);
        x.step(40, -1, false);
        x.need(2, 1, true);
        x.need(4, 3, true);
        x.pans(3, 0);
        x.use(0, 0, true);
        x.use(3, 0, true);
        return x;
    }

    /** Promise 6. */
    private static void about() {
        SpoonCards x = example();
        row("about", new int[] {2, 5, 4, 4, 5, 35, 2, 45, 90, 1}, x::about);
        x.servings(8, 4);
        row("about with servings", new int[] {2, 5, 8, 4}, x::about);
        // 50 grains: a teaspoon; 1224: 8 tablespoons, a teaspoon, and 24 grains are 4 pinches
        DUE.answer("about(4) with servings", 14, () -> x.about(4));
        x.use(4, 1, true);
        DUE.answer("about(9) of a stuck step's ingredient", 0, () -> x.about(9));
        DUE.badArgument("about(-1)", x, () -> x.about(-1));
        DUE.badArgument("about(10)", x, () -> x.about(10));
        x.use(0, 0, false);
        x.use(3, 0, false);
        DUE.answer("about(9), only the ingredient 0", 1, () -> x.about(9));
        SpoonCards y = new SpoonCards();
        y.step(7, 1, true);
        y.pans(1, 0);
        DUE.answer("about(6) behind an action", 1, () -> y.about(6));
        DUE.answer("about(5) if all steps are stuck", 0, () -> y.about(5));
        DUE.answer("about(7) of a stuck step", 7, () -> y.about(7));
    }

    /** Promise 7. */
    private static void ingredientOf() {
        SpoonCards x = example();
        row("ingredientOf(0)", new int[] {100, 100, 102, 3, 2, 2, 0}, what -> x.ingredientOf(0, what));
        row("ingredientOf(1)", new int[] {2448, 2448, 2448, 2, 0, 0, -1}, what -> x.ingredientOf(1, what));
        x.use(0, 0, false);
        DUE.answer("steps that use it", 1, () -> x.ingredientOf(0, 5));
        DUE.answer("first use by a stuck step", -1, () -> x.ingredientOf(0, 6));
        x.use(2, 0, true);
        DUE.answer("first use by the step 2", 20, () -> x.ingredientOf(0, 6));
        x.use(1, 0, true);
        x.use(2, 1, true);
        DUE.answer("first use by the step 1", 0, () -> x.ingredientOf(0, 6));
        DUE.answer("first use of the other", 20, () -> x.ingredientOf(1, 6));
        DUE.noPlace("ingredientOf(2, 0)", x, () -> x.ingredientOf(2, 0));
        DUE.noPlace("ingredientOf(-1, 7)", x, () -> x.ingredientOf(-1, 7));
        DUE.badArgument("ingredientOf(0, -1)", x, () -> x.ingredientOf(0, -1));
        DUE.badArgument("ingredientOf(0, 7)", x, () -> x.ingredientOf(0, 7));
    }

    private static void rounded(int kitchen, int mode, int grains, int want) {
        SpoonCards x = new SpoonCards();
        x.set(0, kitchen);
        x.set(1, mode);
        x.ingredient(grains);
        DUE.answer(grains + " grains, kitchen " + kitchen + ", rounding " + mode, want, () -> x.ingredientOf(0, 2));
        DUE.answer("and how far it is off", want - grains, () -> x.ingredientOf(0, 4));
    }

    private static void scaled(int grains, int card, int wanted, int want) {
        SpoonCards x = new SpoonCards();
        x.ingredient(grains);
        x.servings(card, wanted);
        DUE.answer(grains + " grains for " + wanted + " of " + card, want, () -> x.ingredientOf(0, 1));
        DUE.answer("its amount stays", grains, () -> x.ingredientOf(0, 0));
    }

    private static void rounding() {
        rounded(4, 0, 287, 144);
        rounded(4, 0, 288, 288);
        rounded(4, 0, 143, 144);
        rounded(4, 0, 1, 144);
        rounded(4, 1, 215, 144);
        rounded(4, 1, 216, 288);
        rounded(4, 1, 217, 288);
        rounded(4, 1, 71, 144);
        rounded(4, 2, 144, 144);
        rounded(4, 2, 145, 288);
        rounded(4, 2, 1, 144);
        rounded(15, 1, 8, 6);
        rounded(15, 1, 9, 12);
        rounded(10, 0, 95, 48);
        rounded(12, 0, 2447, 2304);
        rounded(8, 0, 4607, 2304);
        rounded(8, 1, 3456, 4608);
        rounded(8, 2, 2305, 4608);
        rounded(9, 2, 2305, 2310);
        scaled(7, 2, 3, 10);
        scaled(1, 24, 1, 1);
        scaled(47, 24, 1, 1);
        scaled(48, 24, 1, 2);
        scaled(50000, 1, 24, 1200000);
        scaled(50000, 24, 24, 50000);
    }

    private static void counts(int kitchen, int grains, int... want) {
        SpoonCards x = new SpoonCards();
        x.set(0, kitchen);
        x.ingredient(grains);
        row(grains + " grains in spoons, kitchen " + kitchen, want, measure -> x.spoons(0, measure));
        DUE.answer("all of them", want[0] + want[1] + want[2] + want[3], () -> x.ingredientOf(0, 3));
        DUE.answer("and by about", want[0] + want[1] + want[2] + want[3], () -> x.about(4));
    }

    /** Promise 8. */
    private static void spoons() {
        counts(15, 2 * 2304 + 5 * 144 + 2 * 48 + 7 * 6, 7, 2, 5, 2);
        counts(5, 300, 2, 0, 2, 0);
        counts(1, 300, 50, 0, 0, 0);
        counts(9, 2400, 16, 0, 0, 1);
        counts(8, 300, 0, 0, 0, 1);
        counts(6, 2400, 0, 2, 16, 0);
        SpoonCards x = new SpoonCards();
        x.ingredient(48);
        x.servings(1, 3);
        DUE.answer("spoons go by the wanted servings", 1, () -> x.spoons(0, 2));
        DUE.noPlace("spoons(1, 0)", x, () -> x.spoons(1, 0));
        DUE.noPlace("spoons(-1, 4)", x, () -> x.spoons(-1, 4));
        DUE.badArgument("spoons(0, -1)", x, () -> x.spoons(0, -1));
        DUE.badArgument("spoons(0, 4)", x, () -> x.spoons(0, 4));
    }

    /** Promise 9. */
    private static void stepOf() {
        SpoonCards x = example();
        row("stepOf(0)", new int[] {10, 0, 1, 1, 0, 0, 10, 0, 10, 0}, what -> x.stepOf(0, what));
        row("stepOf(1)", new int[] {20, -1, 0, 0, 0, 4, 35, 0, 20, 0}, what -> x.stepOf(1, what));
        row("stepOf(2)", new int[] {15, 0, 1, 0, 2, 0, 15, 20, 35, 1}, what -> x.stepOf(2, what));
        row("stepOf(3)", new int[] {5, 3, 1, 1, 0, 16, 45, -1, -1, 0}, what -> x.stepOf(3, what));
        row("stepOf(4)", new int[] {40, -1, 0, 0, 8, 0, 40, -1, -1, 1}, what -> x.stepOf(4, what));
        x.use(0, 1, true);
        DUE.answer("ingredients as a set", 3, () -> x.stepOf(0, 3));
        DUE.noPlace("stepOf(5, 0)", x, () -> x.stepOf(5, 0));
        DUE.noPlace("stepOf(-1, 10)", x, () -> x.stepOf(-1, 10));
        DUE.badArgument("stepOf(0, -1)", x, () -> x.stepOf(0, -1));
        DUE.badArgument("stepOf(0, 10)", x, () -> x.stepOf(0, 10));
        // 3 needs 1 and 2, which both need 0: a way is not longer for being there twice, nor is 0 counted twice
        SpoonCards y = Cards.of("Cs0141s0241s0441s0841n0100n0200n0301n0302");
        DUE.answer("all steps that 3 needs", 3, () -> y.stepOf(3, 9));
        DUE.answer("the steps that need 0", 6, () -> y.stepOf(0, 5));
        DUE.answer("the way of 0", 13, () -> y.stepOf(0, 6));
        chain();
    }

    /** Of all 14 steps each needs the one behind it: the longest chain that there can be. */
    private static void chain() {
        SpoonCards x = new SpoonCards();
        for (int s = 0; s < 14; s++) {
            x.step(90, 0, false);
        }
        for (int s = 0; s < 13; s++) {
            x.need(s, s + 1, true);
        }
        x.set(2, 20);
        DUE.answer("the way of the last of a chain", 14 * 90, () -> x.stepOf(13, 6));
        DUE.answer("the way of the first of a chain", 90, () -> x.stepOf(0, 6));
        DUE.answer("what the first of a chain needs", 13, () -> x.stepOf(0, 9));
        DUE.answer("the longest plan", 14 * 90 + 13 * 20, () -> x.about(5));
        DUE.answer("its last step", 0, () -> x.begun(13));
        DUE.answer("its last step is busy in the minute 1500", 1, () -> x.during(1500, 1));
        DUE.answer("done in the minute 1500", 13, () -> x.during(1500, 9));
        DUE.answer("the minutes of all 14 steps", 14 * 90, () -> x.about(8));
        DUE.answer("the steps that need 1", 1, () -> x.stepOf(1, 5));
        x.ingredient(5);
        DUE.answer("first use by none of 14 steps", -1, () -> x.ingredientOf(0, 6));
        SpoonCards y = new SpoonCards();
        for (int s = 0; s < 14; s++) {
            y.step(90, -1, true);
        }
        for (int s = 1; s < 14; s++) {
            y.need(s, s - 1, true);
        }
        DUE.answer("the way of the first of the other chain", 14 * 90, () -> y.stepOf(0, 6));
        DUE.answer("what the last of the other chain needs", 13, () -> y.stepOf(13, 9));
        DUE.answer("the longest way of the other chain", 14 * 90, () -> y.about(7));
        SpoonCards z = Cards.of("Cs0140s0140s0140n0002n0100");
        DUE.answer("all that 1 needs, by 0", 2, () -> z.stepOf(1, 9));
        z.minutes(2, 9);
        DUE.answer("end behind an action", 11, () -> z.stepOf(1, 8));
        z.minutes(2, 5);
        DUE.answer("begin behind an action", 6, () -> z.stepOf(1, 7));
    }

    /** Promise 10, one cook: 5, 9 and 3 minutes; 3 and 4 need 2, and 5 needs 3. */
    private static void begunByRules() {
        SpoonCards x = Cards.of("Cs0541s0941s0341s0441s0641s0741n0302n0402n0503");
        plan("rule 0", x, new int[][] {{0, 0, 5}, {1, 5, 14}, {2, 14, 17}, {3, 17, 21}, {4, 21, 27}, {5, 27, 34}});
        x.set(4, 1);
        plan("rule 1", x, new int[][] {{1, 0, 9}, {0, 9, 14}, {2, 14, 17}, {4, 17, 23}, {3, 23, 27}, {5, 27, 34}});
        x.set(4, 2);
        plan("rule 2", x, new int[][] {{2, 0, 3}, {3, 3, 7}, {1, 7, 16}, {5, 16, 23}, {4, 23, 29}, {0, 29, 34}});
        x.set(4, 3);
        plan("rule 3", x, new int[][] {{2, 0, 3}, {3, 3, 7}, {0, 7, 12}, {1, 12, 21}, {4, 21, 27}, {5, 27, 34}});
        DUE.noPlace("begun(-1)", x, () -> x.begun(-1));
        // with all weights alike the lowest number is first; a stuck step counts among those that need one
        SpoonCards y = Cards.of("Cs0541s0541s0531n0201k30");
        for (int rule = 0; rule < 4; rule++) {
            y.set(4, rule);
            boolean second = rule >= 2;
            plan("a stuck step, rule " + rule, y, new int[][] {{second ? 1 : 0, 0, 5}, {second ? 0 : 1, 5, 10}});
        }
        SpoonCards z = Cards.of("Cs0541s0541s0541");
        for (int rule = 0; rule < 4; rule++) {
            z.set(4, rule);
            plan("steps alike, rule " + rule, z, new int[][] {{0, 0, 5}, {1, 5, 10}, {2, 10, 15}});
        }
        // most steps need 0 in all, but most steps need 1 directly
        SpoonCards w = Cards.of("Cs0141s0141s0141s0141s0141s0141n0200n0302n0403n0501n0401r3");
        plan("directly", w, new int[][] {{1, 0, 1}, {0, 1, 2}, {2, 2, 3}, {3, 3, 4}, {4, 4, 5}, {5, 5, 6}});
    }

    /** Steps without hands and pans all begin in the minute 0, in the order of the rule. */
    private static void begunOfOneMinute() {
        SpoonCards x = Cards.of("Cs0540s0940s0940s0340s0140n0400r1");
        plan("of one minute", x, new int[][] {{1, 0, 9}, {2, 0, 9}, {0, 0, 5}, {3, 0, 3}, {4, 5, 6}});
        x.set(4, 0);
        plan("of one minute", x, new int[][] {{0, 0, 5}, {1, 0, 9}, {2, 0, 9}, {3, 0, 3}, {4, 5, 6}});
        // the one pan goes to the step that is first by the rule, and the next one waits for its washing
        SpoonCards y = Cards.of("Cs0420s0620s0240r1");
        plan("one pan", y, new int[][] {{1, 0, 6}, {2, 0, 2}, {0, 8, 12}});
    }

    private static void washing() {
        SpoonCards x = Cards.of("Cs0510s0510s0510");
        plan("one pan, washed 2 minutes", x, new int[][] {{0, 0, 5}, {1, 7, 12}, {2, 14, 19}});
        x.set(2, 0);
        plan("one pan, not washed", x, new int[][] {{0, 0, 5}, {1, 5, 10}, {2, 10, 15}});
        x.set(2, 20);
        x.pans(1, 2);
        plan("two pans", x, new int[][] {{0, 0, 5}, {1, 0, 5}, {2, 25, 30}});
        x.minutes(1, 9);
        x.pans(0, 3);
        plan("two pans of other ends", x, new int[][] {{0, 0, 5}, {1, 0, 9}, {2, 25, 30}});
        x.pans(1, 3);
        plan("three pans", x, new int[][] {{0, 0, 5}, {1, 0, 9}, {2, 0, 5}});
        DUE.answer("washing is no part of the whole", 9, () -> x.about(5));
    }

    /** Promises 11 and 12. */
    private static void piecesAndSetting() {
        SpoonCards x = new SpoonCards();
        x.pans(0, 0);
        x.pans(1, 3);
        x.pans(3, 2);
        row("pieces", new int[] {0, 3, 1, 2}, x::pieces);
        DUE.noPlace("pieces(-1)", x, () -> x.pieces(-1));
        DUE.noPlace("pieces(4)", x, () -> x.pieces(4));
        row("setting, at first", new int[] {15, 1, 2, 1, 0}, x::setting);
        x.set(0, 9);
        x.set(1, 2);
        x.set(2, 17);
        x.set(3, 3);
        x.set(4, 1);
        row("setting", new int[] {9, 2, 17, 3, 1}, x::setting);
        DUE.badArgument("setting(-1)", x, () -> x.setting(-1));
        DUE.badArgument("setting(5)", x, () -> x.setting(5));
    }

    private static void minute(SpoonCards x, int minute, int... want) {
        row("during(" + minute + ")", want, what -> x.during(minute, what));
    }

    /** Promise 13: 0 has hands and the pan 0 until 5, 1 the pan 0 from 7, 2 hands and the pan 2 from 5 to 9, 3 is stuck. */
    private static void during() {
        SpoonCards x = Cards.of("Cs0501s0400s0421s0131k30");
        plan("during", x, new int[][] {{0, 0, 5}, {2, 5, 9}, {1, 7, 11}});
        minute(x, 0, 1, 1, 0, 0, 0, 0, 0, 0, 0, 0);
        minute(x, 4, 1, 1, 0, 0, 0, 0, 0, 0, 0, 0);
        minute(x, 5, 1, 0, 0, 1, 0, 1, 0, 0, 0, 1);
        minute(x, 6, 1, 0, 0, 1, 0, 1, 0, 0, 0, 1);
        minute(x, 7, 1, 1, 0, 1, 0, 0, 0, 0, 0, 1);
        minute(x, 9, 0, 1, 0, 0, 0, 0, 0, 1, 0, 2);
        minute(x, 11, 0, 0, 0, 0, 0, 1, 0, 0, 0, 3);
        minute(x, 12, 0, 0, 0, 0, 0, 1, 0, 0, 0, 3);
        minute(x, 13, 0, 0, 0, 0, 0, 0, 0, 0, 0, 3);
        minute(x, 1500, 0, 0, 0, 0, 0, 0, 0, 0, 0, 3);
        x.set(2, 0);
        minute(x, 5, 1, 1, 0, 1, 0, 0, 0, 0, 0, 1);
        DUE.badArgument("during(-1, 0)", x, () -> x.during(-1, 0));
        DUE.badArgument("during(1501, 0)", x, () -> x.during(1501, 0));
        DUE.badArgument("during(0, -1)", x, () -> x.during(0, -1));
        DUE.badArgument("during(0, 10)", x, () -> x.during(0, 10));
        SpoonCards y = Cards.of("Cs0510s0510s0330s0330k12k32");
        minute(y, 0, 0, 0, 2, 0, 2, 0, 0, 0, 0, 0);
        minute(y, 3, 0, 0, 2, 0, 0, 0, 0, 0, 2, 2);
        minute(y, 5, 0, 0, 0, 0, 0, 0, 2, 0, 0, 4);
    }

    private static void cooks() {
        SpoonCards x = Cards.of("Cs0541s0641s0740s0841s0941");
        plan("one cook", x, new int[][] {{0, 0, 5}, {2, 0, 7}, {1, 5, 11}, {3, 11, 19}, {4, 19, 28}});
        x.set(3, 2);
        plan("two cooks", x, new int[][] {{0, 0, 5}, {1, 0, 6}, {2, 0, 7}, {3, 5, 13}, {4, 6, 15}});
        DUE.answer("two busy cooks", 2, () -> x.during(6, 0));
        DUE.answer("one busy cook", 1, () -> x.during(13, 0));
        x.set(3, 3);
        plan("three cooks", x, new int[][] {{0, 0, 5}, {1, 0, 6}, {2, 0, 7}, {3, 0, 8}, {4, 5, 14}});
        DUE.answer("three busy cooks", 3, () -> x.during(5, 0));
    }

    private static void wrongPlaces() {
        SpoonCards x = new SpoonCards();
        DUE.noPlace("begun(0) without steps", x, () -> x.begun(0));
        DUE.noPlace("stepOf(0, 0) without steps", x, () -> x.stepOf(0, 0));
        DUE.noPlace("ingredientOf(0, 0) without ingredients", x, () -> x.ingredientOf(0, 0));
        DUE.noPlace("spoons(0, 0) without ingredients", x, () -> x.spoons(0, 0));
        int[] far = {Integer.MIN_VALUE, -33, 32, 64, Integer.MAX_VALUE};
        SpoonCards y = example();
        for (int place : far) {
            DUE.noPlace("begun(" + place + ")", y, () -> y.begun(place));
            DUE.noPlace("stepOf(" + place + ", 0)", y, () -> y.stepOf(place, 0));
            DUE.noPlace("ingredientOf(" + place + ", 0)", y, () -> y.ingredientOf(place, 0));
            DUE.noPlace("spoons(" + place + ", 0)", y, () -> y.spoons(place, 0));
            DUE.noPlace("pieces(" + place + ")", y, () -> y.pieces(place));
            DUE.badArgument("setting(" + place + ")", y, () -> y.setting(place));
            DUE.badArgument("about(" + place + ")", y, () -> y.about(place));
            DUE.badArgument("during(0, " + place + ")", y, () -> y.during(0, place));
            DUE.badArgument("spoons(0, " + place + ")", y, () -> y.spoons(0, place));
        }
    }
}
