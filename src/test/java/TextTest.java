/** Promises 1 to 5: a new object, and the text. */
final class TextTest {
    private static final Due DUE = new Due("TextTest");

    public static void main(String[] args) {
        newObject();
        append();
        clearText();
        errorPosition();
        errorPositionOfNumbers();
        load();
        loadLeavesOut();
        loadIsNoAction();
        DUE.end();
    }

    /** Promise 1. */
    private static void newObject() {
        SpoonCards x = new SpoonCards();
        DUE.text("new: all", "error 0; about 0 0 4 4 0 0 0 0 0 0; begun; pieces 1 1 1 1; settings 15 1 2 1 0", Look.at(x));
        DUE.answer("new: clearText()", 0, () -> x.clearText());
        DUE.badState("new: undo()", x, () -> x.undo());
        DUE.badState("new: restore(0)", x, () -> x.restore(0));
        DUE.badState("new: restore(1)", x, () -> x.restore(1));
        SpoonCards y = new SpoonCards();
        String before = Look.at(y);
        x.append('C');
        x.ingredient(5);
        x.step(5, 0, true);
        x.save(0);
        DUE.text("new: another object", before, Look.at(y));
        DUE.badState("new: restore(0) of another object", y, () -> y.restore(0));
    }

    /** Promise 2. */
    private static void append() {
        SpoonCards x = new SpoonCards();
        DUE.badArgument("append(-1)", x, () -> x.append(-1));
        DUE.badArgument("append(256)", x, () -> x.append(256));
        DUE.badArgument("append(int + 67)", x, () -> x.append(65536 + 'C'));
        DUE.answer("append(0)", 1, () -> x.append(0));
        DUE.answer("append(255)", 2, () -> x.append(255));
        for (int length = 3; length <= 120; length++) {
            DUE.answer("append, the sign " + length, length, () -> x.append('x'));
        }
        DUE.badState("append to 120", x, () -> x.append('x'));
        DUE.badArgument("append(256) to 120", x, () -> x.append(256));
        DUE.answer("clearText() of 120", 120, () -> x.clearText());
        DUE.answer("append behind clearText", 1, () -> x.append('C'));
        DUE.answer("what has been appended", -1, () -> x.errorPosition());
    }

    /** Promise 3. */
    private static void clearText() {
        SpoonCards x = Cards.of("Ci01ps0500");
        String all = Look.at(x).substring("error -1".length());
        DUE.answer("clearText()", 10, () -> x.clearText());
        DUE.text("clearText() keeps the card", "error 0" + all, Look.at(x));
        DUE.answer("clearText() again", 0, () -> x.clearText());
        DUE.badState("clearText() is no action", x, () -> x.undo());
    }

    private static void error(String text, int want) {
        SpoonCards x = new SpoonCards();
        Cards.write(x, text);
        String before = Look.at(x);
        DUE.answer("errorPosition of " + text, want, () -> x.errorPosition());
        DUE.text("errorPosition of " + text + " changes nothing", before, Look.at(x));
        if (want != -1) {
            DUE.badState("load of " + text, x, () -> x.load());
        }
        DUE.answer("the length of " + text, text.length(), () -> x.clearText());
    }

    /** Promise 4, and which signs may stand where. */
    private static void errorPosition() {
        error("", 0);
        error("C", -1);
        error("c", 0);
        error(" C", 0);
        error("C ", 1);
        error("CC", 1);
        error("Cx", 1);
        error("CI01p", 1);
        for (String text : new String[] {"Ci01p", "Cs0500", "Cu0000", "Cn0000", "Ck00", "Cv01", "Cr0"}) {
            error(text, -1);
            error(text + text.substring(1), -1);
            error(text + "0", text.length());
            for (int length = 2; length < text.length(); length++) {
                error(text.substring(0, length), length);
                error(text.substring(0, length) + "x", length);
                error(text.substring(0, length) + "i", length);
                error(text.substring(0, length) + ":", length);
                error(text.substring(0, length) + "/", length);
                error(text.substring(0, length) + (char) 0xB2, length);
            }
        }
        error("Ci00pi09ti90Ti99c", -1);
        error("Ci01P", 4);
        error("Ci01C", 4);
        error("Ci01 p", 4);
        error("Ci001p", 4);
        error("Ci01-1/2p", 4);
        error("Cr0 r0", 3);
    }

    private static void errorPositionOfNumbers() {
        error("Ci02+", 5);
        error("Ci02+1", 6);
        error("Ci02+1/", 7);
        error("Ci02+1/2", 8);
        error("Ci02+1/2T", -1);
        error("Ci02+1/2+1/2T", 8);
        error("Ci02+1/12T", 7);
        error("Ci02++1/2T", 5);
        error("Ci02+1/9T", 7);
        error("Ci02+1/1T", 7);
        error("Ci02+0/2T", 5);
        error("Ci02+8/9T", 5);
        error("Ci02+7/7T", 7);
        error("Ci02+7/8T", -1);
        error("Ci02+6/8Ti02+6/7p", -1);
        error("Ci02+4/3T", 7);
        error("Ci02+1/8x", 8);
        error("Ci02+1p", 6);
        error("Cs00", 3);
        error("Cs01", 4);
        error("Cs90", 4);
        error("Cs91", 3);
        error("Cs89", 4);
        error("Cs9", 3);
        error("Cs0150", 4);
        error("Cs0140", -1);
        error("Cs0142", 5);
        error("Cs0131", -1);
        error("Cu2", 2);
        error("Cu14", 3);
        error("Cu13", 4);
        error("Cu132", 4);
        error("Cu1312", 5);
        error("Cu1311", -1);
        error("Cu0910", -1);
        error("Cn1314", 5);
        error("Cn1313", -1);
        error("Cn14", 3);
        error("Ck4", 2);
        error("Ck34", 3);
        error("Ck33", -1);
        error("Cv00", 3);
        error("Cv09", -1);
        error("Cv19", -1);
        error("Cv24", -1);
        error("Cv25", 3);
        error("Cv3", 2);
        error("Cr3", -1);
        error("Cr4", 2);
    }

    /** Promise 5, and what each command does. */
    private static void load() {
        SpoonCards x = new SpoonCards();
        Cards.write(x, "Ci01pi02+1/2ci01+2/3Ti03+1/7ts1001s2040s9030n0100n0201u0001u0000k02k33v06r2");
        DUE.answer("load()", 0, () -> x.load());
        DUE.answer("1 pinch", 6, () -> x.ingredientOf(0, 0));
        DUE.answer("2 1/2 cups", 5760, () -> x.ingredientOf(1, 0));
        DUE.answer("1 2/3 tablespoons", 240, () -> x.ingredientOf(2, 0));
        DUE.answer("3 1/7 teaspoons", 150, () -> x.ingredientOf(3, 0));
        int[][] steps = {{10, 0, 1, 3, 0}, {20, -1, 0, 0, 1}, {90, 3, 0, 0, 2}};
        for (int s = 0; s < 3; s++) {
            for (int what = 0; what < 5; what++) {
                int step = s;
                int which = what;
                DUE.answer("loaded stepOf(" + s + ", " + what + ")", steps[s][what], () -> x.stepOf(step, which));
            }
        }
        int[] pieces = {2, 1, 1, 3};
        for (int kind = 0; kind < 4; kind++) {
            int which = kind;
            DUE.answer("loaded pieces(" + kind + ")", pieces[kind], () -> x.pieces(which));
        }
        DUE.answer("loaded rule", 2, () -> x.setting(4));
        DUE.answer("loaded servings of the card", 4, () -> x.about(2));
        DUE.answer("loaded wanted servings", 6, () -> x.about(3));
        String all = Look.at(x);
        DUE.answer("load() again", 0, () -> x.load());
        DUE.text("load() again makes everything as before", all, Look.at(x));
        Cards.write(x, "C");
        DUE.answer("load() of C", 0, () -> x.load());
        DUE.text("load() of C", "error -1" + Look.at(new SpoonCards()).substring(7), Look.at(x));
        DUE.answer("load() keeps the text", 1, () -> x.clearText());
    }

    private static void leftOut(String text, int want) {
        SpoonCards x = new SpoonCards();
        Cards.write(x, text);
        DUE.answer("load of " + text, want, () -> x.load());
    }

    private static void loadLeavesOut() {
        leftOut("Ci00p", 1);
        leftOut("Ci00+1/8p", 1);
        leftOut("Ci00+1/6p", 0);
        leftOut("Ci21c", 0);
        leftOut("Ci21+7/8c", 1);
        leftOut("Ci22c", 1);
        leftOut("Cu0000", 1);
        leftOut("Ci01pu0000", 1);
        leftOut("Cs0100u0000", 1);
        leftOut("Cs0100i01pu0000u0001u0100", 2);
        leftOut("Cn0000", 1);
        leftOut("Cs0100n0000n0001n0100", 3);
        leftOut("Cs0100s0100s0100n0100n0201n0002n0001n0100", 2);
        leftOut("Ck00k33v01v24r0r3", 0);
        StringBuilder many = new StringBuilder("C");
        for (int k = 0; k < 13; k++) {
            many.append("i01p");
        }
        for (int k = 0; k < 13; k++) {
            many.append("s0100");
        }
        leftOut(many.toString(), 1);
        leftOut("C" + many.substring(53) + "s0100s0100", 1);
        SpoonCards y = Cards.of("Ci01ps0500s0500u0000u0100n0100n0001");
        DUE.answer("load() again leaves out no more", 1, () -> y.load());
        Cards.write(y, "Ci01ps0500s0500");
        y.load();
        DUE.text("load() of less", Look.at(Cards.of("Ci01ps0500s0500")).substring(8), Look.at(y).substring(8));
        SpoonCards x = Cards.of(many.toString());
        DUE.answer("12 ingredients are loaded", 12, () -> x.about(0));
        DUE.answer("13 steps are loaded", 13, () -> x.about(1));
    }

    private static void loadIsNoAction() {
        SpoonCards x = new SpoonCards();
        x.servings(7, 8);
        x.set(0, 3);
        x.step(5, 0, true);
        x.save(0);
        x.save(1);
        x.append('C');
        x.append('v');
        DUE.badState("load() of a text that ends too soon", x, () -> x.load());
        DUE.answer("undo() behind a load() that throws", 2, () -> x.undo());
        DUE.answer("restore(1) behind a load() that throws", 1, () -> x.restore(1));
        x.pans(0, 2);
        x.append('0');
        x.append('9');
        DUE.answer("load()", 0, () -> x.load());
        DUE.text("load() makes all new", "error -1; about 0 0 4 9 0 0 0 0 0 0; begun; pieces 1 1 1 1; settings 15 1 2 1 0",
            Look.at(x));
        DUE.badState("load() forgets the states", x, () -> x.undo());
        DUE.badState("load() empties slot 0", x, () -> x.restore(0));
        DUE.badState("load() empties slot 1", x, () -> x.restore(1));
        DUE.answer("pans behind load()", 1, () -> x.pans(0, 3));
        DUE.answer("undo() behind load()", 0, () -> x.undo());
        DUE.answer("undo() goes back to what load() made", 9, () -> x.about(3));
    }
}
