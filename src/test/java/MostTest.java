/** As much as there can be: 12 ingredients, 14 steps, the greatest amounts and minutes, all cooks and all pans. */
final class MostTest {
    private static final Due DUE = new Due("MostTest");
    private static final int NONE = SpoonCards.NONE;

    public static void main(String[] args) {
        mostGrains();
        mostSpoons();
        mostUses();
        longestPlan();
        allAtOnce();
        mostCooks();
        mostPans();
        allStuck();
        lastOfAll();
        DUE.end();
    }

    private static SpoonCards ingredients(int grains) {
        SpoonCards x = new SpoonCards();
        for (int i = 0; i < 12; i++) {
            x.ingredient(grains);
        }
        return x;
    }

    private static SpoonCards steps(int minutes, int pan, boolean hands) {
        SpoonCards x = new SpoonCards();
        for (int s = 0; s < 14; s++) {
            x.step(minutes, pan, hands);
        }
        return x;
    }

    /** 50000 grains for 1, and 24 are wanted: 1200000 grains, 520 cups and 1920 grains. */
    private static void mostGrains() {
        SpoonCards x = ingredients(50000);
        x.set(0, 8);
        int[] off = {-1920, 384, 384};
        for (int rounding = 0; rounding < 3; rounding++) {
            int r = rounding;
            x.set(1, r);
            int cups = r == 0 ? 520 : 521;
            DUE.answer("servings(1, 24), rounding " + r, 12 * cups, () -> x.servings(1, 24));
            DUE.each("the scaled amount", 12, i -> 1200000, i -> x.ingredientOf(i, 1));
            DUE.each("the rounded one", 12, i -> 2304 * cups, i -> x.ingredientOf(i, 2));
            DUE.each("the difference", 12, i -> off[r], i -> x.ingredientOf(i, 4));
            DUE.answer("ifServed(24, 0)", 12 * cups, () -> x.ifServed(24, 0));
            DUE.answer("ifServed(24, 1)", 12 * Math.abs(off[r]), () -> x.ifServed(24, 1));
        }
    }

    private static void mostSpoons() {
        SpoonCards x = ingredients(50000);
        x.set(0, 1);
        DUE.answer("pinches of all", 12 * 200000, () -> x.servings(1, 24));
        DUE.answer("about(4)", 12 * 200000, () -> x.about(4));
        DUE.each("pinches of one", 12, i -> 200000, i -> x.ingredientOf(i, 3));
        DUE.each("spoons of the last one", 4, measure -> measure == 0 ? 200000 : 0, measure -> x.spoons(11, measure));
        DUE.answer("at most 99 spoons", 0, () -> x.runScript(1, 811099));
    }

    private static void mostUses() {
        SpoonCards x = ingredients(1);
        for (int s = 0; s < 14; s++) {
            x.step(1, NONE, false);
        }
        for (int s = 0; s < 14; s++) {
            for (int i = 0; i < 12; i++) {
                int step = s;
                int ingredient = i;
                DUE.answer("use(" + s + ", " + i + ", true)", i + 1, () -> x.use(step, ingredient, true));
            }
            int step = s;
            DUE.answer("what it uses", 0xFFF, () -> x.stepOf(step, 3));
            DUE.answer("unused", 0, () -> x.about(9));
        }
        DUE.each("steps that use it", 12, i -> 14, i -> x.ingredientOf(i, 5));
        DUE.each("first use", 12, i -> 0, i -> x.ingredientOf(i, 6));
        DUE.answer("use(13, 11, false)", 11, () -> x.use(13, 11, false));
        DUE.answer("what it uses then", 0x7FF, () -> x.stepOf(13, 3));
    }

    /** 14 steps of 90 minutes, each needs all before it, one pan is washed 20 minutes between them. */
    private static void longestPlan() {
        SpoonCards x = steps(90, 0, true);
        x.set(2, 20);
        for (int s = 0; s < 14; s++) {
            for (int other = 0; other < s; other++) {
                int step = s;
                int needed = other;
                DUE.answer("need(" + s + ", " + other + ", true)", other + 1, () -> x.need(step, needed, true));
            }
        }
        DUE.each("the steps that it needs", 14, s -> (1 << s) - 1, s -> x.stepOf(s, 4));
        DUE.each("the steps that need it", 14, s -> 0x3FFF & -2 << s, s -> x.stepOf(s, 5));
        DUE.each("all steps that it needs", 14, s -> s, s -> x.stepOf(s, 9));
        DUE.each("its way", 14, s -> 90 * (14 - s), s -> x.stepOf(s, 6));
        DUE.each("its begin", 14, s -> 110 * s, s -> x.stepOf(s, 7));
        DUE.each("its end", 14, s -> 110 * s + 90, s -> x.stepOf(s, 8));
        DUE.each("its place", 14, s -> s, s -> x.begun(s));
        DUE.each("its slack", 14, s -> 0, s -> x.slack(s));
        int[] about = {0, 14, 4, 4, 0, 1520, 0, 1260, 1260, 0};
        DUE.each("about", 10, what -> about[what], what -> x.about(what));
        int[] at1500 = {1, 1, 0, 0, 0, 0, 0, 0, 0, 13};
        DUE.each("during(1500)", 10, what -> at1500[what], what -> x.during(1500, what));
        DUE.answer("washed in the minute 1429", 1, () -> x.during(1429, 5));
        DUE.answer("washed in the minute 1430", 0, () -> x.during(1430, 5));
        DUE.answer("ifPan(0, 0)", 1260, () -> x.ifPan(0, 0));
        DUE.answer("bestRule()", 0, () -> x.bestRule());
        DUE.answer("the whole takes at most 999", 0, () -> x.runScript(1, 700999));
        DUE.answer("need(13, 0, false)", 12, () -> x.need(13, 0, false));
        DUE.answer("by others it needs it all the same", 13, () -> x.stepOf(13, 9));
        x.pans(0, 0);
        DUE.answer("all stuck", 14, () -> x.about(6));
        DUE.answer("the way of a stuck step", 1260, () -> x.stepOf(0, 6));
    }

    private static void allAtOnce() {
        SpoonCards x = steps(90, NONE, false);
        for (int rule = 0; rule < 4; rule++) {
            x.set(4, rule);
            DUE.each("place by rule " + rule, 14, s -> s, s -> x.begun(s));
        }
        x.minutes(13, 1);
        x.set(4, 1);
        DUE.each("the shortest one is last", 14, s -> s, s -> x.begun(s));
        DUE.answer("its end", 1, () -> x.stepOf(13, 8));
        DUE.each("begin", 14, s -> 0, s -> x.stepOf(s, 7));
        DUE.answer("the whole", 90, () -> x.about(5));
        DUE.answer("done by 0", 0, () -> x.during(0, 9));
        DUE.answer("done by 1", 1, () -> x.during(1, 9));
        DUE.answer("done by 89", 1, () -> x.during(89, 9));
        DUE.answer("done by 90", 14, () -> x.during(90, 9));
        DUE.answer("done by 1500", 14, () -> x.during(1500, 9));
        DUE.answer("slack of the shortest one", 60, () -> x.slack(13));
        DUE.answer("slack of another one", 0, () -> x.slack(12));
    }

    private static void mostCooks() {
        SpoonCards x = steps(10, NONE, true);
        for (int cooks = 1; cooks <= 3; cooks++) {
            int c = cooks;
            x.set(3, c);
            DUE.each("begin with cooks " + c, 14, s -> s / c * 10, s -> x.stepOf(s, 7));
            DUE.answer("busy cooks at first", c, () -> x.during(0, 0));
            DUE.answer("busy cooks in the minute 10", c, () -> x.during(10, 0));
        }
        DUE.answer("the whole with 3 cooks", 50, () -> x.about(5));
        DUE.answer("two cooks are busy at last", 2, () -> x.during(40, 0));
        DUE.answer("no cook is busy behind all", 0, () -> x.during(50, 0));
    }

    /** The steps have the kinds of pan 0, 1, 2, 3, 0 and so on: of the kinds 0 and 1 there are four steps. */
    private static void mostPans() {
        SpoonCards x = new SpoonCards();
        for (int kind = 0; kind < 4; kind++) {
            x.pans(kind, 3);
        }
        for (int s = 0; s < 14; s++) {
            x.step(10, s % 4, false);
        }
        DUE.each("begin", 14, s -> s < 12 ? 0 : 12, s -> x.stepOf(s, 7));
        DUE.each("in use", 4, kind -> 3, kind -> x.during(0, 1 + kind));
        DUE.each("washed", 4, kind -> 3, kind -> x.during(10, 5 + kind));
        DUE.each("in use later", 4, kind -> kind < 2 ? 1 : 0, kind -> x.during(12, 1 + kind));
        DUE.each("washed no more", 4, kind -> 0, kind -> x.during(12, 5 + kind));
        DUE.each("one piece more of one kind", 4, kind -> 22, kind -> x.ifPan(kind, 0));
        x.minutes(13, 1);
        DUE.answer("a fourth piece of the kind 0", 13, () -> x.ifPan(0, 0));
        DUE.answer("a fourth piece of the kind 1", 22, () -> x.ifPan(1, 0));
        DUE.each("three pieces stay", 4, kind -> 3, kind -> x.pieces(kind));
    }

    private static void allStuck() {
        SpoonCards x = steps(90, 2, true);
        x.ingredient(1);
        x.use(13, 0, true);
        x.pans(2, 0);
        int[] about = {1, 14, 4, 4, 1, 0, 14, 90, 1260, 0};
        DUE.each("about", 10, what -> about[what], what -> x.about(what));
        DUE.each("begin", 14, s -> NONE, s -> x.stepOf(s, 7));
        DUE.each("end", 14, s -> NONE, s -> x.stepOf(s, 8));
        DUE.each("slack", 14, s -> NONE, s -> x.slack(s));
        DUE.each("during", 10, what -> 0, what -> x.during(0, what));
        DUE.answer("first use", NONE, () -> x.ingredientOf(0, 6));
        DUE.noPlace("begun(0)", x, () -> x.begun(0));
        DUE.answer("ifPan(2, 0)", 14 * 92 - 2, () -> x.ifPan(2, 0));
        DUE.answer("ifPan(2, 1)", 0, () -> x.ifPan(2, 1));
        DUE.answer("ifPan(1, 0)", 0, () -> x.ifPan(1, 0));
        DUE.answer("ifPan(1, 1)", 14, () -> x.ifPan(1, 1));
        DUE.answer("bestRule()", 0, () -> x.bestRule());
        DUE.answer("at most 9 steps are stuck", 0, () -> x.runScript(1, 900009));
        DUE.answer("the whole takes no minute", -1, () -> x.runScript(1, 700000));
    }

    private static void lastOfAll() {
        SpoonCards x = ingredients(144);
        for (int s = 0; s < 14; s++) {
            x.step(5, NONE, false);
        }
        DUE.badState("the ingredient 13", x, () -> x.ingredient(1));
        DUE.badState("the step 15", x, () -> x.step(1, NONE, false));
        DUE.answer("amount(11, 1)", 144, () -> x.amount(11, 1));
        DUE.answer("minutes(13, 90)", 5, () -> x.minutes(13, 90));
        DUE.answer("use(13, 11, true)", 1, () -> x.use(13, 11, true));
        DUE.answer("need(13, 12, true)", 1, () -> x.need(13, 12, true));
        DUE.answer("spoons(11, 0)", 1, () -> x.spoons(11, 0));
        DUE.answer("stepOf(13, 3)", 1 << 11, () -> x.stepOf(13, 3));
        DUE.answer("stepOf(13, 4)", 1 << 12, () -> x.stepOf(13, 4));
        DUE.answer("stepOf(12, 5)", 1 << 13, () -> x.stepOf(12, 5));
        DUE.answer("ingredientOf(11, 6)", 5, () -> x.ingredientOf(11, 6));
        DUE.answer("begun(13)", 13, () -> x.begun(13));
        DUE.noPlace("begun(14)", x, () -> x.begun(14));
        x.set(4, 3);
        DUE.answer("the last step needs 12, which is first by rule 3", 12, () -> x.begun(0));
        x.set(4, 2);
        DUE.answer("and by rule 2", 12, () -> x.begun(0));
        x.set(4, 1);
        DUE.answer("by rule 1 it is behind the lower ones", 12, () -> x.begun(12));
        DUE.answer("slack(13)", 0, () -> x.slack(13));
        DUE.answer("slack(0)", 60, () -> x.slack(0));
        DUE.answer("save(1)", 14, () -> x.save(1));
        DUE.answer("restore(1)", 14, () -> x.restore(1));
        DUE.answer("stepOf(13, 0) behind it", 90, () -> x.stepOf(13, 0));
    }
}
