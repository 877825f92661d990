/** Promises 31 and 32: the save slots. */
final class SlotsTest {
    private static final Due DUE = new Due("SlotsTest");

    public static void main(String[] args) {
        wrongSlots();
        saveAndRestore();
        wholeState();
        DUE.end();
    }

    private static void wrongSlots() {
        SpoonCards x = Cards.of("Ci01ps0501");
        for (int slot : new int[] {-1, 2, Integer.MIN_VALUE, Integer.MAX_VALUE}) {
            DUE.noPlace("save(" + slot + ")", x, () -> x.save(slot));
            DUE.noPlace("restore(" + slot + ")", x, () -> x.restore(slot));
        }
        DUE.badState("restore(0) of nothing", x, () -> x.restore(0));
        DUE.answer("save(0)", 1, () -> x.save(0));
        DUE.badState("restore(1) of nothing", x, () -> x.restore(1));
        x.pans(0, 3);
        DUE.badState("restore(1) of nothing behind an action", x, () -> x.restore(1));
        DUE.answer("undo() behind a restore that throws", 0, () -> x.undo());
    }

    private static void saveAndRestore() {
        SpoonCards x = new SpoonCards();
        DUE.answer("save(0) without steps", 0, () -> x.save(0));
        x.step(5, 0, true);
        x.step(6, 0, true);
        DUE.answer("save(1)", 2, () -> x.save(1));
        x.step(7, 0, true);
        DUE.answer("undo() behind save", 2, () -> x.undo());
        x.minutes(0, 50);
        DUE.answer("restore(1)", 2, () -> x.restore(1));
        DUE.answer("what was saved", 5, () -> x.stepOf(0, 0));
        DUE.badState("restore forgets all states", x, () -> x.undo());
        x.minutes(0, 70);
        DUE.answer("restore(1) again", 2, () -> x.restore(1));
        DUE.answer("the slot keeps it", 5, () -> x.stepOf(0, 0));
        DUE.answer("restore(0)", 0, () -> x.restore(0));
        DUE.answer("no steps", 0, () -> x.about(1));
        x.step(9, 1, false);
        DUE.answer("save(1) again", 1, () -> x.save(1));
        x.restore(0);
        x.restore(1);
        DUE.answer("the later one", 9, () -> x.stepOf(0, 0));
    }

    private static void wholeState() {
        SpoonCards x = Cards.of("Ci01pi02ps0501s0600n0100u0000k02r1v05");
        x.set(0, 5);
        x.servings(3, 9);
        String saved = Look.at(x);
        x.save(0);
        x.ingredient(50);
        x.amount(0, 900);
        x.servings(1, 1);
        x.minutes(1, 33);
        x.need(1, 0, false);
        x.use(0, 0, false);
        x.use(1, 1, true);
        x.step(5, 1, true);
        x.pans(0, 0);
        for (int what = 0; what < 5; what++) {
            x.set(what, 2);
        }
        x.restore(0);
        DUE.text("all is as it was", saved, Look.at(x));
        x.append('x');
        x.restore(0);
        DUE.answer("restore keeps the text", 38, () -> x.clearText());
    }
}
