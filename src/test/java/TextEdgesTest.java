/** The edges of the section TEXT: each sign at each place, each number, no text at all, and a full one. */
final class TextEdgesTest {
    private static final Due DUE = new Due("TextEdgesTest");
    private static final String DIGITS = "0123456789";
    private static final String COMMANDS = "isunkvr";
    private static final String MEASURES = "ptTc";
    private static final int[] GRAINS = {6, 48, 144, 2304};
    private static final String STEPS_23 = "s0140".repeat(23);

    public static void main(String[] args) {
        signsOfACommand();
        signsOfAnIngredient();
        signsOfTwoNumbers();
        signsBehindACommand();
        numbersOfTwoDigits();
        fractions();
        theFirstWrongSign();
        noText();
        fullText();
        mostCommands();
        grainsOfAText();
        stepsOfAText();
        servingsOfAText();
        DUE.end();
    }

    private static SpoonCards withText(String text) {
        SpoonCards x = new SpoonCards();
        Cards.write(x, text);
        return x;
    }

    private static void error(String text, int want) {
        SpoonCards x = withText(text);
        DUE.answer("errorPosition of " + text, want, () -> x.errorPosition());
    }

    private static void loaded(String text, int leftOut, SpoonCards want) {
        SpoonCards x = withText(text);
        DUE.answer("load of " + text, leftOut, () -> x.load());
        DUE.text("what is loaded by " + text, Look.card(want), Look.card(x));
    }

    /** Behind this begin of a card each of the 256 signs: it ends a card, it is allowed but does not, or it is wrong. */
    private static void signs(String begin, String allowed, String ending) {
        for (char c = 0; c < 256; c++) {
            boolean ends = ending.indexOf(c) >= 0;
            boolean goesOn = allowed.indexOf(c) >= 0;
            error(begin + c, ends ? -1 : goesOn ? begin.length() + 1 : begin.length());
        }
    }

    /** "A card as a text is the letter C, and then any number of commands". */
    private static void signsOfACommand() {
        signs("", "", "C");
        signs("C", COMMANDS, "");
        signs("Ck", "0123", "");
        signs("Ck0", "", "0123");
        signs("Ck3", "", "0123");
        signs("Cv", "012", "");
        signs("Cv0", "", "123456789");
        signs("Cv1", "", DIGITS);
        signs("Cv2", "", "01234");
        signs("Cr", "", "0123");
    }

    /** "perhaps a plus sign, a digit from 1 to 7, a slash, a digit from 2 to 8 that is greater". */
    private static void signsOfAnIngredient() {
        signs("Ci", DIGITS, "");
        for (char tens : DIGITS.toCharArray()) {
            signs("Ci" + tens, DIGITS, "");
        }
        signs("Ci00", "+", MEASURES);
        signs("Ci99", "+", MEASURES);
        signs("Ci99+", "1234567", "");
        for (int above = 1; above <= 7; above++) {
            signs("Ci00+" + above, "/", "");
            signs("Ci00+" + above + "/", "2345678".substring(above - 1), "");
            signs("Ci00+" + above + "/8", "", MEASURES);
        }
    }

    private static void signsOfTwoNumbers() {
        signs("Cs", DIGITS, "");
        signs("Cs0", "123456789", "");
        signs("Cs1", DIGITS, "");
        signs("Cs8", DIGITS, "");
        signs("Cs9", "0", "");
        signs("Cs01", "01234", "");
        signs("Cs90", "01234", "");
        signs("Cs010", "", "01");
        signs("Cs014", "", "01");
        for (String begin : new String[] {"Cu", "Cn"}) {
            String lastOnes = begin.equals("Cu") ? "01" : "0123";
            signs(begin, "01", "");
            signs(begin + "0", DIGITS, "");
            signs(begin + "1", "0123", "");
            for (String step : new String[] {"00", "09", "10", "13"}) {
                signs(begin + step, "01", "");
                signs(begin + step + "0", "", DIGITS);
                signs(begin + step + "1", "", lastOnes);
            }
        }
    }

    private static void signsBehindACommand() {
        for (String command : new String[] {"i01p", "i01+1/2p", "s0140", "u0000", "n0000", "k00", "v01", "r0"}) {
            signs("C" + command, COMMANDS, "");
            signs("C" + command + command, COMMANDS, "");
        }
    }

    /** All numbers of two digits at a place where the least and the greatest allowed ones are these. */
    private static void numbers(String begin, int least, int most, String end) {
        for (int number = 0; number < 100; number++) {
            String digits = "" + number / 10 + number % 10;
            boolean tensAllowed = least / 10 <= number / 10 && number / 10 <= most / 10;
            int wrong = begin.length() + (tensAllowed ? 1 : 0);
            error(begin + digits + end, least <= number && number <= most ? -1 : wrong);
        }
    }

    /** "a digit is not allowed if no number that is allowed begins with it and those before it". */
    private static void numbersOfTwoDigits() {
        numbers("Ci", 0, 99, "p");
        numbers("Cs", 1, 90, "40");
        numbers("Cu", 0, 13, "00");
        numbers("Cu00", 0, 11, "");
        numbers("Cu13", 0, 11, "");
        numbers("Cn", 0, 13, "00");
        numbers("Cn00", 0, 13, "");
        numbers("Cn13", 0, 13, "");
        numbers("Cv", 1, 24, "");
        numbers("Ci01pv", 1, 24, "i01p");
    }

    private static void fractions() {
        for (int above = 0; above < 10; above++) {
            for (int below = 0; below < 10; below++) {
                boolean aboveAllowed = 1 <= above && above <= 7;
                boolean belowAllowed = above < below && 2 <= below && below <= 8;
                error("Ci00+" + above + "/" + below + "p", !aboveAllowed ? 5 : !belowAllowed ? 7 : -1);
            }
        }
    }

    /** "The error position is the index of the first character that these rules do not allow". */
    private static void theFirstWrongSign() {
        error("c", 0);
        error("cx", 0);
        error("xC", 0);
        error("CxC", 1);
        error("CxxCr0", 1);
        error("Cr4r4", 2);
        error("Cr0r4r5", 4);
        error("Cr4r0", 2);
        error("Ci01pi00+2/2p", 11);
        error("C" + (char) 0, 1);
        error("C" + (char) 255, 1);
    }

    /** "if the text ends too soon, it is the length of the text": also a text without any sign. */
    private static void noText() {
        SpoonCards x = new SpoonCards();
        DUE.answer("errorPosition() without a text", 0, () -> x.errorPosition());
        DUE.badState("load() without a text", x, () -> x.load());
        DUE.answer("clearText() without a text", 0, () -> x.clearText());
        x.append('C');
        DUE.answer("the shortest card", -1, () -> x.errorPosition());
        DUE.answer("load() of the shortest card", 0, () -> x.load());
        x.clearText();
        DUE.answer("errorPosition() behind clearText()", 0, () -> x.errorPosition());
        DUE.badState("load() behind clearText()", x, () -> x.load());
    }

    /** "at most 120 characters". */
    private static void fullText() {
        full("C" + STEPS_23 + "i01p", -1);
        full("C" + STEPS_23 + "i01x", 119);
        full("C" + STEPS_23 + "i01+", 120);
        full("C" + STEPS_23 + "s014", 120);
        full("C" + STEPS_23 + "xxxx", 116);
        full("x" + STEPS_23 + "i01p", 0);
        SpoonCards x = withText("C" + STEPS_23 + "i01p");
        DUE.answer("load of a full text", 9, () -> x.load());
        DUE.answer("steps of a full text", 14, () -> x.about(1));
        DUE.answer("the last command of a full text", 1, () -> x.about(0));
        DUE.answer("load keeps a full text", 120, () -> x.clearText());
        DUE.answer("append behind clearText() of a full text", 1, () -> x.append('C'));
    }

    private static void full(String text, int want) {
        SpoonCards x = withText(text.substring(0, 119));
        DUE.answer("the sign 120 of " + text, 120, () -> x.append(text.charAt(119)));
        DUE.answer("errorPosition of " + text, want, () -> x.errorPosition());
        DUE.badState("the sign 121 behind " + text, x, () -> x.append('0'));
        DUE.answer("errorPosition keeps, behind the sign 121, " + text, want, () -> x.errorPosition());
        if (want != -1) {
            DUE.badState("load of " + text, x, () -> x.load());
        }
        DUE.answer("the length of " + text, 120, () -> x.clearText());
    }

    /** "any number of commands": none, one, the most, and the most that can be left out. */
    private static void mostCommands() {
        loaded("C", 0, new SpoonCards());
        SpoonCards third = new SpoonCards();
        third.set(4, 3);
        loaded("Cr3", 0, third);
        loaded("C" + "r1".repeat(58) + "r3", 0, third);
        error("C" + "r1".repeat(59) + "r", 120);
        loaded("C" + "i00p".repeat(29), 29, new SpoonCards());
        loaded("C" + "i00p".repeat(29) + "r3", 29, third);
        loaded("C" + "u1311".repeat(23) + "r3", 23, third);
        loaded("C" + "n1313".repeat(23) + "r3", 23, third);
    }

    /** A text's grains, or 0 if its one ingredient is left out. */
    private static void grains(String ingredient, int want) {
        SpoonCards x = new SpoonCards();
        if (want > 0) {
            x.ingredient(want);
        }
        loaded("Ci" + ingredient, want > 0 ? 0 : 1, x);
    }

    /** "ingredient() with the grains of that measure times the number, and that grains * the first digit / the second one". */
    private static void grainsOfAText() {
        for (int measure = 0; measure < 4; measure++) {
            char letter = MEASURES.charAt(measure);
            grains("00" + letter, 0);
            grains("01" + letter, GRAINS[measure]);
            grains("10" + letter, 10 * GRAINS[measure]);
            for (int below = 2; below <= 8; below++) {
                for (int above = 1; above < below; above++) {
                    grains("00+" + above + "/" + below + letter, GRAINS[measure] * above / below);
                    grains("03+" + above + "/" + below + letter, 3 * GRAINS[measure] + GRAINS[measure] * above / below);
                }
            }
        }
        grains("99p", 594);
        grains("99+7/8p", 599);
        grains("99t", 4752);
        grains("99+7/8T", 14382);
        grains("21c", 48384);
        grains("21+2/3c", 49920);
        grains("21+5/7c", 0);
        grains("22c", 0);
        grains("99+7/8c", 0);
        grains("00+1/6p", 1);
        grains("00+1/7p", 0);
        grains("00+1/8p", 0);
        grains("00+2/8p", 1);
    }

    private static void stepsOfAText() {
        for (int minutes : new int[] {1, 9, 10, 89, 90}) {
            for (int pan = 0; pan <= 4; pan++) {
                for (int hands = 0; hands <= 1; hands++) {
                    SpoonCards x = new SpoonCards();
                    x.step(minutes, pan == 4 ? SpoonCards.NONE : pan, hands == 1);
                    loaded("Cs" + minutes / 10 + minutes % 10 + pan + hands, 0, x);
                }
            }
        }
        String steps = "s0140".repeat(14);
        SpoonCards fourteen = new SpoonCards();
        for (int s = 0; s < 14; s++) {
            fourteen.step(1, SpoonCards.NONE, false);
        }
        loaded("C" + steps + "s0240", 1, fourteen);
        fourteen.need(13, 12, true);
        loaded("C" + steps + "n1312n1213n1313s0101", 3, fourteen);
        String twelve = "C" + "i01p".repeat(12);
        SpoonCards ingredients = new SpoonCards();
        for (int i = 0; i < 12; i++) {
            ingredients.ingredient(6);
        }
        ingredients.step(1, SpoonCards.NONE, false);
        ingredients.use(0, 11, true);
        loaded(twelve + "i02ps0140u0011u0111", 2, ingredients);
    }

    /** "servings() with the ones of the card as they are". */
    private static void servingsOfAText() {
        for (int wanted = 1; wanted <= 24; wanted++) {
            SpoonCards x = new SpoonCards();
            x.servings(4, wanted);
            loaded("Cv" + wanted / 10 + wanted % 10, 0, x);
            SpoonCards y = new SpoonCards();
            y.servings(7, 7);
            Cards.write(y, "Cv05v" + wanted / 10 + wanted % 10);
            y.load();
            DUE.text("the last v of two, behind other servings", Look.card(x), Look.card(y));
        }
        for (int kind = 0; kind < 4; kind++) {
            for (int pieces = 0; pieces < 4; pieces++) {
                SpoonCards x = new SpoonCards();
                x.pans(kind, pieces);
                loaded("Ck" + kind + pieces, 0, x);
            }
        }
    }
}
