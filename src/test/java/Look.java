import java.util.function.IntUnaryOperator;

/** All that an object tells without being changed, but for what it remembers. */
final class Look {
    private Look() {
    }

    static String at(SpoonCards x) {
        return "error " + x.errorPosition() + card(x);
    }

    /** The same but for the text. */
    static String card(SpoonCards x) {
        StringBuilder all = new StringBuilder();
        row(all, "about", 10, x::about);
        for (int i = 0; i < x.about(0); i++) {
            int which = i;
            row(all, "ingredient " + i, 7, what -> x.ingredientOf(which, what));
            row(all, "spoons", 4, measure -> x.spoons(which, measure));
        }
        for (int s = 0; s < x.about(1); s++) {
            int which = s;
            row(all, "step " + s, 10, what -> x.stepOf(which, what));
        }
        row(all, "begun", x.about(1) - x.about(6), x::begun);
        row(all, "pieces", 4, x::pieces);
        row(all, "settings", 5, x::setting);
        return all.toString();
    }

    /** The same with the states that are remembered, the save slots and the text; x is not to be used behind it. */
    static String wholly(SpoonCards x) {
        StringBuilder all = new StringBuilder(at(x));
        for (int count = 0; count < 16; count++) {
            all.append("\nundo ").append(Due.outcome(() -> x.undo())).append(": ").append(at(x));
        }
        for (int k = 0; k < 2; k++) {
            int slot = k;
            all.append("\nslot ").append(Due.outcome(() -> x.restore(slot))).append(": ").append(at(x));
        }
        all.append("\nload ").append(Due.outcome(() -> x.load())).append(": ").append(at(x));
        return all.append("\ntext of ").append(x.clearText()).toString();
    }

    private static void row(StringBuilder all, String name, int count, IntUnaryOperator number) {
        all.append("; ").append(name);
        for (int k = 0; k < count; k++) {
            all.append(' ').append(number.applyAsInt(k));
        }
    }
}
