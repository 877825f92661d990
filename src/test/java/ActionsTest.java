import java.util.function.IntSupplier;

/** Promises 14 to 23: the actions, and undo. */
final class ActionsTest {
    private static final Due DUE = new Due("ActionsTest");

    public static void main(String[] args) {
        ingredient();
        amount();
        servings();
        step();
        minutes();
        use();
        need();
        rings();
        pans();
        set();
        undo();
        fourteenStates();
        eachActionIsTakenBack();
        refusalsAreNotRemembered();
        othersAreNoActions();
        DUE.end();
    }

    /** Promise 14. */
    private static void ingredient() {
        SpoonCards x = new SpoonCards();
        DUE.badArgument("ingredient(0)", x, () -> x.ingredient(0));
        DUE.badArgument("ingredient(50001)", x, () -> x.ingredient(50001));
        DUE.badArgument("ingredient(-1)", x, () -> x.ingredient(Integer.MIN_VALUE));
        for (int i = 0; i < 12; i++) {
            int grains = i == 0 ? 1 : i == 1 ? 50000 : 100 + i;
            DUE.answer("ingredient " + i, i, () -> x.ingredient(grains));
        }
        DUE.badState("ingredient 12", x, () -> x.ingredient(5));
        DUE.badArgument("ingredient 12, with no grains", x, () -> x.ingredient(0));
        DUE.answer("the first", 1, () -> x.ingredientOf(0, 0));
        DUE.answer("the second", 50000, () -> x.ingredientOf(1, 0));
        DUE.answer("the last", 111, () -> x.ingredientOf(11, 0));
        DUE.answer("undo() of the last", 11, () -> x.undo());
        DUE.answer("another last", 11, () -> x.ingredient(7));
        DUE.answer("another last's amount", 7, () -> x.ingredientOf(11, 0));
    }

    /** Promise 15. */
    private static void amount() {
        SpoonCards x = Cards.of("Ci01pi02p");
        DUE.answer("amount(1, 50000)", 12, () -> x.amount(1, 50000));
        DUE.answer("amount(1, 1)", 50000, () -> x.amount(1, 1));
        DUE.answer("amount(1, 1) again", 1, () -> x.amount(1, 1));
        DUE.answer("the other", 6, () -> x.ingredientOf(0, 0));
        DUE.noPlace("amount(2, 5)", x, () -> x.amount(2, 5));
        DUE.noPlace("amount(-1, 0)", x, () -> x.amount(-1, 0));
        DUE.badArgument("amount(0, 0)", x, () -> x.amount(0, 0));
        DUE.badArgument("amount(0, 50001)", x, () -> x.amount(0, 50001));
        DUE.answer("undo() of an action that made nothing different", 2, () -> x.undo());
    }

    /** Promise 16. */
    private static void servings() {
        SpoonCards x = Cards.of("Ci01ti03T");
        DUE.answer("servings(1, 1)", 4, () -> x.servings(1, 1));
        DUE.answer("servings(2, 3)", 14, () -> x.servings(2, 3));
        DUE.answer("servings(24, 24)", 4, () -> x.servings(24, 24));
        DUE.answer("about(2)", 24, () -> x.about(2));
        DUE.answer("about(3)", 24, () -> x.about(3));
        DUE.badArgument("servings(0, 4)", x, () -> x.servings(0, 4));
        DUE.badArgument("servings(4, 0)", x, () -> x.servings(4, 0));
        DUE.badArgument("servings(25, 4)", x, () -> x.servings(25, 4));
        DUE.badArgument("servings(4, 25)", x, () -> x.servings(4, 25));
        DUE.answer("servings without ingredients", 0, () -> new SpoonCards().servings(1, 24));
    }

    /** Promise 17. */
    private static void step() {
        SpoonCards x = new SpoonCards();
        DUE.badArgument("step(0, 0, true)", x, () -> x.step(0, 0, true));
        DUE.badArgument("step(91, 0, true)", x, () -> x.step(91, 0, true));
        DUE.badArgument("step(5, 4, true)", x, () -> x.step(5, 4, true));
        DUE.badArgument("step(5, -2, true)", x, () -> x.step(5, -2, true));
        for (int s = 0; s < 14; s++) {
            int number = s;
            DUE.answer("step " + s, s, () -> x.step(number == 0 ? 1 : 90, number % 5 - 1, number % 2 == 0));
        }
        DUE.badState("step 14", x, () -> x.step(5, 0, true));
        DUE.badArgument("step 14 with no minutes", x, () -> x.step(0, 0, true));
        DUE.answer("minutes of the step 0", 1, () -> x.stepOf(0, 0));
        DUE.answer("pan of the step 0", -1, () -> x.stepOf(0, 1));
        DUE.answer("hands of the step 0", 1, () -> x.stepOf(0, 2));
        DUE.answer("minutes of the step 13", 90, () -> x.stepOf(13, 0));
        DUE.answer("pan of the step 13", 2, () -> x.stepOf(13, 1));
        DUE.answer("hands of the step 13", 0, () -> x.stepOf(13, 2));
        x.ingredient(5);
        x.use(13, 0, true);
        x.need(13, 2, true);
        x.undo();
        x.undo();
        x.undo();
        x.undo();
        x.step(8, 3, true);
        DUE.answer("a new step uses nothing", 0, () -> x.stepOf(13, 3));
        DUE.answer("a new step needs nothing", 0, () -> x.stepOf(13, 4));
        DUE.answer("a new step's pan", 3, () -> x.stepOf(13, 1));
    }

    /** Promise 18. */
    private static void minutes() {
        SpoonCards x = Cards.of("Cs0540s0640");
        DUE.answer("minutes(1, 90)", 6, () -> x.minutes(1, 90));
        DUE.answer("minutes(1, 1)", 90, () -> x.minutes(1, 1));
        DUE.answer("minutes of the other", 5, () -> x.stepOf(0, 0));
        DUE.noPlace("minutes(2, 5)", x, () -> x.minutes(2, 5));
        DUE.noPlace("minutes(-1, 0)", x, () -> x.minutes(-1, 0));
        DUE.badArgument("minutes(0, 0)", x, () -> x.minutes(0, 0));
        DUE.badArgument("minutes(0, 91)", x, () -> x.minutes(0, 91));
    }

    /** Promise 19. */
    private static void use() {
        SpoonCards x = Cards.of("Ci01pi02pi03ps0540s0640");
        DUE.answer("use(1, 2, true)", 1, () -> x.use(1, 2, true));
        DUE.answer("use(1, 2, true) again", 1, () -> x.use(1, 2, true));
        DUE.answer("use(1, 0, true)", 2, () -> x.use(1, 0, true));
        DUE.answer("the set", 5, () -> x.stepOf(1, 3));
        DUE.answer("the other's set", 0, () -> x.stepOf(0, 3));
        DUE.answer("use(1, 1, false)", 2, () -> x.use(1, 1, false));
        DUE.answer("use(1, 2, false)", 1, () -> x.use(1, 2, false));
        DUE.answer("the set then", 1, () -> x.stepOf(1, 3));
        DUE.noPlace("use(2, 0, true)", x, () -> x.use(2, 0, true));
        DUE.noPlace("use(-1, 0, false)", x, () -> x.use(-1, 0, false));
        DUE.noPlace("use(0, 3, true)", x, () -> x.use(0, 3, true));
        DUE.noPlace("use(0, -1, false)", x, () -> x.use(0, -1, false));
    }

    /** Promise 20. */
    private static void need() {
        SpoonCards x = Cards.of("Cs0540s0640s0740s0840");
        DUE.answer("need(3, 1, true)", 1, () -> x.need(3, 1, true));
        DUE.answer("need(3, 1, true) again", 1, () -> x.need(3, 1, true));
        DUE.answer("need(3, 0, true)", 2, () -> x.need(3, 0, true));
        DUE.answer("the set", 3, () -> x.stepOf(3, 4));
        DUE.answer("need(3, 2, false)", 2, () -> x.need(3, 2, false));
        DUE.answer("need(3, 1, false)", 1, () -> x.need(3, 1, false));
        DUE.answer("need(3, 3, false)", 1, () -> x.need(3, 3, false));
        DUE.answer("need(0, 3, false)", 0, () -> x.need(0, 3, false));
        DUE.noPlace("need(4, 0, true)", x, () -> x.need(4, 0, true));
        DUE.noPlace("need(0, 4, false)", x, () -> x.need(0, 4, false));
        DUE.noPlace("need(-1, -1, true)", x, () -> x.need(-1, -1, true));
        DUE.noPlace("need(4, 4, true)", x, () -> x.need(4, 4, true));
    }

    private static void rings() {
        SpoonCards x = Cards.of("Cs0540s0640s0740s0840n0100n0201n0302");
        DUE.badState("need(1, 1, true)", x, () -> x.need(1, 1, true));
        DUE.badState("need(0, 1, true)", x, () -> x.need(0, 1, true));
        DUE.badState("need(0, 2, true)", x, () -> x.need(0, 2, true));
        DUE.badState("need(0, 3, true)", x, () -> x.need(0, 3, true));
        DUE.badState("need(1, 3, true)", x, () -> x.need(1, 3, true));
        DUE.answer("need(3, 0, true)", 2, () -> x.need(3, 0, true));
        DUE.answer("need(2, 1, false)", 0, () -> x.need(2, 1, false));
        DUE.badState("need(0, 3, true), which needs 0 directly", x, () -> x.need(0, 3, true));
        DUE.answer("need(1, 3, true)", 2, () -> x.need(1, 3, true));
        DUE.badState("need(2, 1, true), which needs 3", x, () -> x.need(2, 1, true));
        SpoonCards y = new SpoonCards();
        for (int s = 0; s < 14; s++) {
            y.step(5, -1, false);
        }
        for (int s = 0; s < 13; s++) {
            y.need(s, s + 1, true);
        }
        DUE.badState("need(13, 0, true) by all others", y, () -> y.need(13, 0, true));
    }

    /** Promise 21. */
    private static void pans() {
        SpoonCards x = new SpoonCards();
        DUE.answer("pans(3, 3)", 1, () -> x.pans(3, 3));
        DUE.answer("pans(3, 0)", 3, () -> x.pans(3, 0));
        DUE.answer("pans(0, 2)", 1, () -> x.pans(0, 2));
        DUE.noPlace("pans(-1, 4)", x, () -> x.pans(-1, 4));
        DUE.noPlace("pans(4, 0)", x, () -> x.pans(4, 0));
        DUE.badArgument("pans(0, -1)", x, () -> x.pans(0, -1));
        DUE.badArgument("pans(0, 4)", x, () -> x.pans(0, 4));
    }

    /** Promise 22. */
    private static void set() {
        SpoonCards x = new SpoonCards();
        int[] first = {15, 1, 2, 1, 0};
        int[] least = {1, 0, 0, 1, 0};
        int[] most = {15, 2, 20, 3, 3};
        for (int what = 0; what < 5; what++) {
            int w = what;
            DUE.badArgument("set(" + w + ", less)", x, () -> x.set(w, least[w] - 1));
            DUE.badArgument("set(" + w + ", more)", x, () -> x.set(w, most[w] + 1));
            DUE.answer("set(" + w + ", least)", first[w], () -> x.set(w, least[w]));
            DUE.answer("set(" + w + ", most)", least[w], () -> x.set(w, most[w]));
            DUE.answer("setting(" + w + ")", most[w], () -> x.setting(w));
        }
        DUE.badArgument("set(-1, 1)", x, () -> x.set(-1, 1));
        DUE.badArgument("set(5, 1)", x, () -> x.set(5, 1));
    }

    /** Promise 23. */
    private static void undo() {
        SpoonCards x = new SpoonCards();
        DUE.badState("undo()", x, () -> x.undo());
        x.ingredient(10);
        x.amount(0, 20);
        x.amount(0, 30);
        DUE.answer("undo()", 2, () -> x.undo());
        DUE.answer("the amount then", 20, () -> x.ingredientOf(0, 0));
        x.step(5, 0, true);
        DUE.answer("undo() of a step", 2, () -> x.undo());
        DUE.answer("undo() again", 1, () -> x.undo());
        DUE.answer("the first amount", 10, () -> x.ingredientOf(0, 0));
        DUE.answer("undo() of all", 0, () -> x.undo());
        DUE.answer("no ingredient", 0, () -> x.about(0));
        DUE.badState("undo() of nothing", x, () -> x.undo());
    }

    private static void fourteenStates() {
        SpoonCards x = new SpoonCards();
        x.ingredient(1);
        for (int grains = 2; grains <= 40; grains++) {
            x.amount(0, grains);
        }
        for (int left = 13; left >= 0; left--) {
            int count = left;
            DUE.answer("undo(), then " + left, count, () -> x.undo());
            DUE.answer("the amount, with " + left, 26 + count, () -> x.ingredientOf(0, 0));
        }
        DUE.badState("undo() of the 15th", x, () -> x.undo());
        x.amount(0, 99);
        DUE.answer("undo() of a later action", 0, () -> x.undo());
        DUE.answer("the amount before it", 26, () -> x.ingredientOf(0, 0));
    }

    private static void takenBack(String name, SpoonCards x, IntSupplier action) {
        String before = Look.at(x);
        action.getAsInt();
        DUE.text(name + " changes something", "true", "" + !before.equals(Look.at(x)));
        DUE.answer(name + ", then undo()", 0, () -> x.undo());
        DUE.text(name + " is taken back", before, Look.at(x));
    }

    private static void eachActionIsTakenBack() {
        SpoonCards x = Cards.of("Ci01pi02ps0501s0600n0100u0000k02r1v05");
        takenBack("ingredient", x, () -> x.ingredient(5));
        takenBack("amount", x, () -> x.amount(0, 5));
        takenBack("servings", x, () -> x.servings(3, 5));
        takenBack("step", x, () -> x.step(5, 0, true));
        takenBack("minutes", x, () -> x.minutes(0, 7));
        takenBack("use", x, () -> x.use(0, 0, false));
        takenBack("need", x, () -> x.need(1, 0, false));
        takenBack("pans", x, () -> x.pans(0, 3));
        takenBack("set", x, () -> x.set(1, 0));
    }

    private static void refusalsAreNotRemembered() {
        SpoonCards x = Cards.of("Ci01ps0501s0501n0100");
        DUE.badArgument("ingredient(0)", x, () -> x.ingredient(0));
        DUE.noPlace("amount(1, 5)", x, () -> x.amount(1, 5));
        DUE.badArgument("servings(0, 0)", x, () -> x.servings(0, 0));
        DUE.badArgument("step(0, 0, true)", x, () -> x.step(0, 0, true));
        DUE.badArgument("minutes(0, 0)", x, () -> x.minutes(0, 0));
        DUE.noPlace("use(0, 1, true)", x, () -> x.use(0, 1, true));
        DUE.badState("need(0, 1, true)", x, () -> x.need(0, 1, true));
        DUE.badArgument("pans(0, 4)", x, () -> x.pans(0, 4));
        DUE.badArgument("set(0, 0)", x, () -> x.set(0, 0));
        DUE.badState("undo() behind refusals", x, () -> x.undo());
    }

    private static void othersAreNoActions() {
        SpoonCards x = Cards.of("Ci01ps0501");
        x.append('C');
        x.save(0);
        x.ifPan(0, 0);
        x.ifServed(5, 0);
        x.slack(0);
        x.bestRule();
        x.bestServings(1, 24);
        x.runScript(1, 107080);
        x.simulate(5, 60);
        x.clearText();
        DUE.badState("undo() without actions", x, () -> x.undo());
        x.pans(0, 3);
        x.append('x');
        x.save(1);
        DUE.answer("undo() of the action", 0, () -> x.undo());
        DUE.answer("undo() keeps the text", 1, () -> x.clearText());
        DUE.answer("undo() keeps the slots", 1, () -> x.restore(1));
        DUE.answer("what slot 1 kept", 3, () -> x.pieces(0));
    }
}
