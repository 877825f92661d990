/** What each call answers where there is nothing at all: no text, no ingredient, no step, no state, no slot. */
final class NothingTest {
    private static final Due DUE = new Due("NothingTest");

    public static void main(String[] args) {
        nothing("a new object", new SpoonCards());
        nothing("the shortest card loaded", Cards.of("C"));
        nothing("behind load() of a card that was full", emptiedByLoad());
        nothing("all taken back", emptiedByUndo());
        nothing("an empty slot restored", emptiedByRestore());
        onlyIngredients();
        onlySteps();
        DUE.end();
    }

    private static SpoonCards filled() {
        SpoonCards x = new SpoonCards();
        x.ingredient(500);
        x.step(5, 0, true);
        x.step(6, 1, true);
        x.need(1, 0, true);
        x.use(0, 0, true);
        x.set(1, 2);
        x.pans(2, 3);
        x.servings(5, 6);
        return x;
    }

    private static SpoonCards emptiedByLoad() {
        SpoonCards x = filled();
        x.save(0);
        x.append('C');
        x.load();
        return x;
    }

    private static SpoonCards emptiedByUndo() {
        SpoonCards x = filled();
        for (int count = 0; count < 8; count++) {
            x.undo();
        }
        return x;
    }

    private static SpoonCards emptiedByRestore() {
        SpoonCards x = new SpoonCards();
        x.save(1);
        x.ingredient(500);
        x.step(5, 0, true);
        x.restore(1);
        return x;
    }

    private static void nothing(String name, SpoonCards x) {
        String empty = Look.card(new SpoonCards());
        DUE.text("all of " + name, empty, Look.card(x));
        questions(name, x);
        whatWouldBe(name, x);
        scripts(name, x);
        changes(name, x);
        DUE.text("all of " + name + " behind that", empty, Look.card(x));
    }

    private static void questions(String name, SpoonCards x) {
        int[] about = {0, 0, 4, 4, 0, 0, 0, 0, 0, 0};
        for (int what = 0; what < 10; what++) {
            int w = what;
            DUE.answer(name + ": about(" + w + ")", about[w], () -> x.about(w));
            DUE.answer(name + ": during(0, " + w + ")", 0, () -> x.during(0, w));
            DUE.answer(name + ": during(1500, " + w + ")", 0, () -> x.during(1500, w));
        }
        DUE.noPlace(name + ": ingredientOf(0, 0)", x, () -> x.ingredientOf(0, 0));
        DUE.noPlace(name + ": spoons(0, 0)", x, () -> x.spoons(0, 0));
        DUE.noPlace(name + ": stepOf(0, 0)", x, () -> x.stepOf(0, 0));
        DUE.noPlace(name + ": begun(0)", x, () -> x.begun(0));
    }

    private static void whatWouldBe(String name, SpoonCards x) {
        for (int kind = 0; kind < 4; kind++) {
            int k = kind;
            DUE.answer(name + ": ifPan(" + k + ", 0)", 0, () -> x.ifPan(k, 0));
            DUE.answer(name + ": ifPan(" + k + ", 1)", 0, () -> x.ifPan(k, 1));
        }
        for (int wanted = 1; wanted <= 24; wanted++) {
            int w = wanted;
            DUE.answer(name + ": ifServed(" + w + ", 0)", 0, () -> x.ifServed(w, 0));
            DUE.answer(name + ": ifServed(" + w + ", 1)", 0, () -> x.ifServed(w, 1));
            DUE.answer(name + ": bestServings(" + w + ", 24)", w, () -> x.bestServings(w, 24));
        }
        DUE.noPlace(name + ": slack(0)", x, () -> x.slack(0));
        DUE.answer(name + ": bestRule()", 0, () -> x.bestRule());
    }

    private static void scripts(String name, SpoonCards x) {
        for (long good : new long[] {101010, 430000, 540003, 700000, 900000}) {
            DUE.answer(name + ": runScript(1, " + good + ")", -1, () -> x.runScript(1, good));
        }
        for (long bad : new long[] {0, 200010, 300000, 301000, 600000, 600990, 800000, 800099}) {
            DUE.answer(name + ": runScript(1, " + bad + ")", 0, () -> x.runScript(1, bad));
        }
        DUE.answer(name + ": runScript(3, 700000900000600990)", 2, () -> x.runScript(3, 700000900000600990L));
    }

    /** Only refused calls, and such as are taken back again. */
    private static void changes(String name, SpoonCards x) {
        DUE.noPlace(name + ": amount(0, 5)", x, () -> x.amount(0, 5));
        DUE.noPlace(name + ": minutes(0, 5)", x, () -> x.minutes(0, 5));
        DUE.noPlace(name + ": use(0, 0, true)", x, () -> x.use(0, 0, true));
        DUE.noPlace(name + ": use(0, 0, false)", x, () -> x.use(0, 0, false));
        DUE.noPlace(name + ": need(0, 0, true)", x, () -> x.need(0, 0, true));
        DUE.noPlace(name + ": need(0, 0, false)", x, () -> x.need(0, 0, false));
        DUE.badState(name + ": undo()", x, () -> x.undo());
        DUE.answer(name + ": servings(24, 1)", 0, () -> x.servings(24, 1));
        DUE.answer(name + ": undo() of servings", 0, () -> x.undo());
        DUE.answer(name + ": save(0)", 0, () -> x.save(0));
        DUE.answer(name + ": the first ingredient", 0, () -> x.ingredient(5));
        DUE.answer(name + ": the first step", 0, () -> x.step(5, SpoonCards.NONE, false));
        DUE.answer(name + ": restore(0)", 0, () -> x.restore(0));
        DUE.badState(name + ": undo() behind restore(0)", x, () -> x.undo());
    }

    private static void onlyIngredients() {
        SpoonCards x = new SpoonCards();
        x.ingredient(144);
        DUE.answer("no step uses it", 1, () -> x.about(9));
        DUE.answer("no step begins with it", -1, () -> x.ingredientOf(0, 6));
        DUE.answer("as many steps use it", 0, () -> x.ingredientOf(0, 5));
        DUE.answer("the whole without steps", 0, () -> x.about(5));
        DUE.noPlace("use(0, 0, true) without steps", x, () -> x.use(0, 0, true));
    }

    private static void onlySteps() {
        SpoonCards x = new SpoonCards();
        x.step(5, SpoonCards.NONE, false);
        DUE.answer("the spoons without ingredients", 0, () -> x.about(4));
        DUE.answer("a step uses nothing", 0, () -> x.stepOf(0, 3));
        DUE.answer("a step needs nothing", 0, () -> x.stepOf(0, 4));
        DUE.answer("nothing needs a step", 0, () -> x.stepOf(0, 5));
        DUE.answer("a step needs none in all", 0, () -> x.stepOf(0, 9));
        DUE.answer("a step has no pan", SpoonCards.NONE, () -> x.stepOf(0, 1));
        DUE.answer("the way is its minutes", 5, () -> x.stepOf(0, 6));
        DUE.noPlace("use(0, 0, true) without ingredients", x, () -> x.use(0, 0, true));
    }
}
