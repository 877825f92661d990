import java.util.function.ToIntFunction;

/** The edges of ACTIONS AND UNDO and of the save slots: no state, one, 14 and one more, and both slots. */
final class UndoEdgesTest {
    private static final Due DUE = new Due("UndoEdgesTest");

    public static void main(String[] args) {
        alsoIfNothingBecomesDifferent();
        exactlySoMany();
        fourteenOfAFullCard();
        behindUndo();
        noActions();
        loadForgets();
        restoreForgets();
        bothSlots();
        DUE.end();
    }

    private static SpoonCards example() {
        return Cards.of("Ci01pi02ps0501s0600n0100u0000k02r1v05");
    }

    private static void same(String name, ToIntFunction<SpoonCards> action) {
        SpoonCards x = example();
        String before = Look.at(x);
        action.applyAsInt(x);
        DUE.text(name + " makes nothing different", before, Look.at(x));
        DUE.answer("undo() of " + name, 0, () -> x.undo());
        DUE.text("undo() of " + name + " makes nothing different", before, Look.at(x));
        DUE.badState("undo() once more", x, () -> x.undo());
    }

    /** "is an action, also if nothing becomes different". */
    private static void alsoIfNothingBecomesDifferent() {
        same("amount(0, 6)", x -> x.amount(0, 6));
        same("servings(4, 5)", x -> x.servings(4, 5));
        same("minutes(1, 6)", x -> x.minutes(1, 6));
        same("use(0, 0, true)", x -> x.use(0, 0, true));
        same("use(1, 1, false)", x -> x.use(1, 1, false));
        same("need(1, 0, true)", x -> x.need(1, 0, true));
        same("need(0, 1, false)", x -> x.need(0, 1, false));
        same("need(0, 0, false)", x -> x.need(0, 0, false));
        same("pans(0, 2)", x -> x.pans(0, 2));
        same("set(4, 1)", x -> x.set(4, 1));
        same("set(0, 15)", x -> x.set(0, 15));
    }

    /** "At most 14 states are remembered; when one more is remembered, the oldest one is forgotten". */
    private static void exactlySoMany() {
        for (int actions : new int[] {0, 1, 2, 13, 14, 15, 16, 27, 28, 29, 60}) {
            SpoonCards x = new SpoonCards();
            for (int k = 1; k <= actions; k++) {
                x.servings(1 + k % 24, 1 + k / 24);
            }
            int kept = Math.min(actions, 14);
            for (int left = kept - 1; left >= 0; left--) {
                int state = actions - kept + left;
                int count = left;
                String name = actions + " actions, " + left + " left: ";
                DUE.answer(name + "undo()", count, () -> x.undo());
                DUE.answer(name + "the card", state == 0 ? 4 : 1 + state % 24, () -> x.about(2));
                DUE.answer(name + "the wanted ones", state == 0 ? 4 : 1 + state / 24, () -> x.about(3));
            }
            DUE.badState("undo() behind " + actions + " actions, all taken back", x, () -> x.undo());
        }
    }

    private static void fourteenOfAFullCard() {
        SpoonCards x = new SpoonCards();
        for (int i = 0; i < 12; i++) {
            x.ingredient(50000);
        }
        for (int s = 0; s < 14; s++) {
            x.step(90, s % 5 - 1, true);
        }
        String[] looks = new String[15];
        for (int s = 0; s < 14; s++) {
            looks[s] = Look.at(x);
            x.need(s, (s + 1) % 14, s < 13);
        }
        for (int left = 13; left >= 0; left--) {
            int count = left;
            DUE.answer("undo() of a full card", count, () -> x.undo());
            DUE.text("what it takes back to, " + left, looks[left], Look.at(x));
        }
        DUE.badState("undo() of a full card, the 15th", x, () -> x.undo());
    }

    /** "(undo is none)": what it takes back is not remembered, and later actions stand on what is left. */
    private static void behindUndo() {
        SpoonCards x = new SpoonCards();
        for (int grains = 1; grains <= 14; grains++) {
            if (grains == 1) x.ingredient(grains); else x.amount(0, grains);
        }
        DUE.answer("undo()", 13, () -> x.undo());
        DUE.answer("undo() of undo() goes on", 12, () -> x.undo());
        DUE.answer("the amount then", 12, () -> x.ingredientOf(0, 0));
        DUE.answer("amount(0, 100)", 12, () -> x.amount(0, 100));
        DUE.answer("amount(0, 200)", 100, () -> x.amount(0, 200));
        DUE.answer("amount(0, 300), the 15th state", 200, () -> x.amount(0, 300));
        int[] back = {200, 100, 12, 11, 10, 9, 8, 7, 6, 5, 4, 3, 2, 1};
        for (int k = 0; k < 14; k++) {
            int which = k;
            DUE.answer("undo(), " + k, 13 - k, () -> x.undo());
            DUE.answer("the amount behind undo(), " + k, back[which], () -> x.ingredientOf(0, 0));
        }
        DUE.badState("undo() of the first action, which is forgotten", x, () -> x.undo());
    }

    private static void noAction(String name, ToIntFunction<SpoonCards> call) {
        SpoonCards x = example();
        DUE.text(name + " throws nothing", "false", "" + Due.outcome(() -> call.applyAsInt(x)).endsWith("Exception"));
        DUE.badState("undo() of " + name, x, () -> x.undo());
    }

    private static void noActions() {
        noAction("append", x -> x.append('C'));
        noAction("clearText", x -> x.clearText());
        noAction("errorPosition", x -> x.errorPosition());
        noAction("load", x -> x.load());
        noAction("about", x -> x.about(5));
        noAction("ingredientOf", x -> x.ingredientOf(0, 6));
        noAction("spoons", x -> x.spoons(0, 3));
        noAction("stepOf", x -> x.stepOf(0, 7));
        noAction("begun", x -> x.begun(0));
        noAction("pieces", x -> x.pieces(0));
        noAction("setting", x -> x.setting(0));
        noAction("during", x -> x.during(0, 0));
        noAction("ifPan", x -> x.ifPan(0, 0));
        noAction("ifServed", x -> x.ifServed(5, 0));
        noAction("slack", x -> x.slack(0));
        noAction("bestRule", x -> x.bestRule());
        noAction("bestServings", x -> x.bestServings(1, 24));
        noAction("runScript", x -> x.runScript(1, 107080));
        noAction("simulate", x -> x.simulate(1, 60));
        noAction("save", x -> x.save(0));
        noAction("save and restore", x -> x.save(1) + x.restore(1));
    }

    /** Promise 5: "Behind it no state is remembered, and both save slots are empty". */
    private static void loadForgets() {
        for (int actions : new int[] {1, 14, 15}) {
            SpoonCards x = example();
            for (int k = 0; k < actions; k++) {
                x.pans(k % 4, 3);
            }
            x.save(0);
            x.save(1);
            String fresh = Look.card(example());
            DUE.answer("load() behind " + actions + " actions", 0, () -> x.load());
            DUE.text("what is loaded", fresh, Look.card(x));
            DUE.badState("undo() behind load()", x, () -> x.undo());
            DUE.badState("restore(0) behind load()", x, () -> x.restore(0));
            DUE.badState("restore(1) behind load()", x, () -> x.restore(1));
            DUE.answer("save(1) behind load()", 2, () -> x.save(1));
            DUE.badState("restore(0) behind load() and save(1)", x, () -> x.restore(0));
            DUE.answer("restore(1) behind load() and save(1)", 2, () -> x.restore(1));
        }
    }

    /** Promise 32: "and forgets all remembered states. The save slot keeps it". */
    private static void restoreForgets() {
        for (int actions : new int[] {1, 14, 15}) {
            SpoonCards x = example();
            String saved = Look.at(x);
            x.save(0);
            for (int time = 0; time < 3; time++) {
                for (int k = 0; k < actions; k++) {
                    x.minutes(0, 10 + k);
                }
                DUE.answer("restore(0) behind " + actions + " actions", 2, () -> x.restore(0));
                DUE.text("what is restored", saved, Look.at(x));
                DUE.badState("undo() behind restore(0)", x, () -> x.undo());
            }
            x.set(4, 3);
            DUE.answer("undo() of the first action behind restore(0)", 0, () -> x.undo());
            DUE.text("it takes back to what was restored", saved, Look.at(x));
        }
    }

    /** Each slot keeps its own, the later save takes the place of the earlier one, and save forgets no state. */
    private static void bothSlots() {
        SpoonCards x = new SpoonCards();
        DUE.answer("save(0) without steps", 0, () -> x.save(0));
        for (int s = 0; s < 14; s++) {
            x.step(1 + s, SpoonCards.NONE, false);
        }
        DUE.answer("save(1) with 14 steps", 14, () -> x.save(1));
        DUE.answer("undo() behind save(1)", 13, () -> x.undo());
        DUE.answer("undo() once more", 12, () -> x.undo());
        DUE.answer("restore(0)", 0, () -> x.restore(0));
        DUE.answer("no steps", 0, () -> x.about(1));
        DUE.answer("restore(1)", 14, () -> x.restore(1));
        DUE.answer("14 steps", 14, () -> x.about(1));
        DUE.answer("the last one's minutes", 14, () -> x.stepOf(13, 0));
        x.minutes(13, 90);
        DUE.answer("save(0) again", 14, () -> x.save(0));
        DUE.answer("restore(1) is as before", 14, () -> x.restore(1));
        DUE.answer("the last one's minutes of slot 1", 14, () -> x.stepOf(13, 0));
        DUE.answer("restore(0) is the later one", 14, () -> x.restore(0));
        DUE.answer("the last one's minutes of slot 0", 90, () -> x.stepOf(13, 0));
    }
}
