import java.util.ArrayList;
import java.util.List;
import java.util.function.Supplier;
import java.util.function.ToIntFunction;

/**
 * The section EXCEPTIONS, call by call: what is just out of its range and what is far out of it, which exception is
 * due if two could be, that a call that throws changes nothing at all (text, states and slots too), and that the
 * least and the greatest that is allowed is not refused.
 */
final class RefusalsTest {
    private static final Due DUE = new Due("RefusalsTest");
    private static final String PLACE = "IndexOutOfBoundsException";
    private static final String ARGUMENT = "IllegalArgumentException";
    private static final String STATE = "IllegalStateException";
    private static final int LOW = Integer.MIN_VALUE;
    private static final int HIGH = Integer.MAX_VALUE;

    /** A card on which calls are tried; each try is made on an object of its own. */
    private static final class Sample {
        final String name;
        final Supplier<SpoonCards> make;
        final String wholly;

        Sample(String name, Supplier<SpoonCards> make) {
            this.name = name;
            this.make = make;
            this.wholly = Look.wholly(make.get());
        }
    }

    /** A call with two arguments; those with one leave out the second one. */
    private interface Call {
        int on(SpoonCards x, int a, int b);
    }

    private static final Sample EMPTY = new Sample("an empty card", SpoonCards::new);
    private static final Sample SOME = new Sample("a card", RefusalsTest::some);
    private static final Sample FULL = new Sample("a full card", RefusalsTest::full);
    private static final Sample[] ALL = {EMPTY, SOME, FULL};

    public static void main(String[] args) {
        texts();
        questions();
        places();
        steps();
        amounts();
        settings();
        rings();
        states();
        scripts();
        DUE.end();
    }

    /** Two ingredients; four steps, of which the last one is stuck; three states, a slot and a text. */
    private static SpoonCards some() {
        SpoonCards x = Cards.of("Ci01pi02+1/2ts0501s0620s0700s0430n0100n0201u0000k30r1v05");
        x.save(0);
        x.servings(3, 5);
        x.minutes(0, 8);
        x.pans(0, 2);
        Cards.write(x, "Cv07r2");
        return x;
    }

    /** As many of all things as there can be; each step needs the one before it. */
    private static SpoonCards full() {
        SpoonCards x = new SpoonCards();
        for (int i = 0; i < 12; i++) {
            x.ingredient(50000 - i);
        }
        for (int s = 0; s < 14; s++) {
            x.step(90 - s, s % 5 - 1, s % 2 == 0);
            if (s > 0) {
                x.need(s, s - 1, true);
            }
        }
        x.save(0);
        x.save(1);
        for (int i = 0; i < 12; i++) {
            x.use(13, i, true);
        }
        Cards.write(x, "C" + "i01p".repeat(29) + "r3");
        x.append('r');
        return x;
    }

    private static void refused(Sample sample, String name, String want, ToIntFunction<SpoonCards> call) {
        SpoonCards x = sample.make.get();
        DUE.text(name + " of " + sample.name, want, Due.outcome(() -> call.applyAsInt(x)));
        DUE.text(name + " of " + sample.name + " changes nothing", sample.wholly, Look.wholly(x));
    }

    private static void allowed(Sample sample, String name, ToIntFunction<SpoonCards> call) {
        SpoonCards x = sample.make.get();
        String outcome = Due.outcome(() -> call.applyAsInt(x));
        DUE.text(name + " of " + sample.name + " is allowed", "true", "" + !outcome.endsWith("Exception"));
    }

    private static void refused(Sample sample, String name, String want, Call call, int a, int b) {
        refused(sample, name + "(" + a + ", " + b + ")", want, x -> call.on(x, a, b));
    }

    private static void allowed(Sample sample, String name, Call call, int a, int b) {
        allowed(sample, name + "(" + a + ", " + b + ")", x -> call.on(x, a, b));
    }

    private static int[] outside(int least, int most) {
        return new int[] {LOW, least - 1, most + 1, HIGH};
    }

    /** A call with a place, which does not exist if it is outside 0 to count - 1. */
    private static void place(Sample sample, String name, int count, Call call) {
        for (int a : outside(0, count - 1)) {
            refused(sample, name, PLACE, call, a, 0);
        }
        if (count > 0) {
            allowed(sample, name, call, 0, 0);
            allowed(sample, name, call, count - 1, 0);
        }
    }

    /** A call with one argument that is no place. */
    private static void argument(Sample sample, String name, int least, int most, Call call) {
        for (int a : outside(least, most)) {
            refused(sample, name, ARGUMENT, call, a, 0);
        }
        allowed(sample, name, call, least, 0);
        allowed(sample, name, call, most, 0);
    }

    /** A call with a place, and then another argument: that the place does not exist is named first. */
    private static void placeFirst(Sample sample, String name, int count, int least, int most, Call call) {
        for (int a : outside(0, count - 1)) {
            for (int b : new int[] {LOW, least - 1, least, most, most + 1, HIGH}) {
                refused(sample, name, PLACE, call, a, b);
            }
        }
        for (int a : count > 0 ? new int[] {0, count - 1} : new int[0]) {
            for (int b : outside(least, most)) {
                refused(sample, name, ARGUMENT, call, a, b);
            }
            allowed(sample, name, call, a, least);
            allowed(sample, name, call, a, most);
        }
    }

    /** A call with two arguments of which none is a place. */
    private static void twoArguments(Sample sample, String name, int[] first, int[] second, Call call) {
        for (int a : outside(first[0], first[1])) {
            for (int b : new int[] {LOW, second[0] - 1, second[0], second[1], second[1] + 1, HIGH}) {
                refused(sample, name, ARGUMENT, call, a, b);
            }
        }
        for (int a : first) {
            for (int b : outside(second[0], second[1])) {
                refused(sample, name, ARGUMENT, call, a, b);
            }
            allowed(sample, name, call, a, second[0]);
            allowed(sample, name, call, a, second[1]);
        }
    }

    /** Promises 2 and 5: of append the range is named first, then the full text. */
    private static void texts() {
        argument(EMPTY, "append", 0, 255, (x, a, b) -> x.append(a));
        argument(SOME, "append", 0, 255, (x, a, b) -> x.append(a));
        for (int c : outside(0, 255)) {
            refused(FULL, "append", ARGUMENT, (x, a, b) -> x.append(a), c, 0);
        }
        for (int c : new int[] {0, 'C', 255}) {
            refused(FULL, "append", STATE, (x, a, b) -> x.append(a), c, 0);
        }
        refused(EMPTY, "load()", STATE, x -> x.load());
        refused(FULL, "load()", STATE, x -> x.load());
        Sample wrong = new Sample("a card with a wrong text", () -> {
            SpoonCards x = some();
            x.append('x');
            return x;
        });
        refused(wrong, "load()", STATE, x -> x.load());
        allowed(SOME, "load()", x -> x.load());
    }

    /** Promises 6 to 13. */
    private static void questions() {
        for (Sample sample : ALL) {
            int ingredients = sample.make.get().about(0);
            int steps = sample.make.get().about(1);
            int stuck = sample.make.get().about(6);
            argument(sample, "about", 0, 9, (x, a, b) -> x.about(a));
            placeFirst(sample, "ingredientOf", ingredients, 0, 6, (x, a, b) -> x.ingredientOf(a, b));
            placeFirst(sample, "spoons", ingredients, 0, 3, (x, a, b) -> x.spoons(a, b));
            placeFirst(sample, "stepOf", steps, 0, 9, (x, a, b) -> x.stepOf(a, b));
            place(sample, "begun", steps - stuck, (x, a, b) -> x.begun(a));
            place(sample, "pieces", 4, (x, a, b) -> x.pieces(a));
            argument(sample, "setting", 0, 4, (x, a, b) -> x.setting(a));
            twoArguments(sample, "during", new int[] {0, 1500}, new int[] {0, 9}, (x, a, b) -> x.during(a, b));
        }
    }

    /** Promises 21, 24, 26 and 31. */
    private static void places() {
        for (Sample sample : ALL) {
            placeFirst(sample, "pans", 4, 0, 3, (x, a, b) -> x.pans(a, b));
            placeFirst(sample, "ifPan", 4, 0, 1, (x, a, b) -> x.ifPan(a, b));
            place(sample, "slack", sample.make.get().about(1), (x, a, b) -> x.slack(a));
            place(sample, "save", 2, (x, a, b) -> x.save(a));
        }
    }

    /** Promises 17 to 19: of step the ranges are named first, then that there are 14. */
    private static void steps() {
        for (Sample sample : ALL) {
            int steps = sample.make.get().about(1);
            int ingredients = sample.make.get().about(0);
            placeFirst(sample, "minutes", steps, 1, 90, (x, a, b) -> x.minutes(a, b));
            for (boolean used : new boolean[] {false, true}) {
                Call use = (x, a, b) -> x.use(a, b, used);
                for (int s : outside(0, steps - 1)) {
                    for (int i : new int[] {LOW, -1, 0, ingredients, HIGH}) {
                        refused(sample, "use " + used, PLACE, use, s, i);
                    }
                }
                for (int i : outside(0, ingredients - 1)) {
                    refused(sample, "use " + used, PLACE, use, Math.max(0, steps - 1), i);
                }
            }
            for (boolean hands : new boolean[] {false, true}) {
                Call step = (x, a, b) -> x.step(a, b, hands);
                for (int minutes : outside(1, 90)) {
                    refused(sample, "step " + hands, ARGUMENT, step, minutes, 0);
                }
                for (int pan : outside(-1, 3)) {
                    refused(sample, "step " + hands, ARGUMENT, step, 1, pan);
                    refused(sample, "step " + hands, ARGUMENT, step, 91, pan);
                }
            }
        }
        twoArguments(SOME, "step", new int[] {1, 90}, new int[] {-1, 3}, (x, a, b) -> x.step(a, b, true));
        allowed(SOME, "use", (x, a, b) -> x.use(a, b, true), 3, 1);
        refused(FULL, "step", STATE, (x, a, b) -> x.step(a, b, true), 1, -1);
        refused(FULL, "step", STATE, (x, a, b) -> x.step(a, b, false), 90, 3);
    }

    /** Promises 14 to 16, 25 and 28: of ingredient the range is named first, then that there are 12. */
    private static void amounts() {
        int[] servings = {1, 24};
        for (Sample sample : ALL) {
            placeFirst(sample, "amount", sample.make.get().about(0), 1, 50000, (x, a, b) -> x.amount(a, b));
            for (int grains : outside(1, 50000)) {
                refused(sample, "ingredient", ARGUMENT, (x, a, b) -> x.ingredient(a), grains, 0);
            }
            twoArguments(sample, "servings", servings, servings, (x, a, b) -> x.servings(a, b));
            twoArguments(sample, "ifServed", servings, new int[] {0, 1}, (x, a, b) -> x.ifServed(a, b));
            for (int least : new int[] {LOW, 0, 25, HIGH}) {
                for (int most : new int[] {LOW, 0, 1, 24, 25, HIGH}) {
                    refused(sample, "bestServings", ARGUMENT, (x, a, b) -> x.bestServings(a, b), least, most);
                }
            }
            for (int least = 1; least <= 24; least++) {
                for (int most : outside(least, 24)) {
                    refused(sample, "bestServings", ARGUMENT, (x, a, b) -> x.bestServings(a, b), least, most);
                }
                allowed(sample, "bestServings", (x, a, b) -> x.bestServings(a, b), least, least);
                allowed(sample, "bestServings", (x, a, b) -> x.bestServings(a, b), least, 24);
            }
        }
        argument(SOME, "ingredient", 1, 50000, (x, a, b) -> x.ingredient(a));
        refused(FULL, "ingredient", STATE, (x, a, b) -> x.ingredient(a), 1, 0);
        refused(FULL, "ingredient", STATE, (x, a, b) -> x.ingredient(a), 50000, 0);
    }

    /** Promise 22. */
    private static void settings() {
        int[] least = {1, 0, 0, 1, 0};
        int[] most = {15, 2, 20, 3, 3};
        for (Sample sample : ALL) {
            for (int what : outside(0, 4)) {
                for (int v : new int[] {LOW, -1, 0, 1, 3, HIGH}) {
                    refused(sample, "set", ARGUMENT, (x, a, b) -> x.set(a, b), what, v);
                }
            }
            for (int what = 0; what < 5; what++) {
                for (int v : outside(least[what], most[what])) {
                    refused(sample, "set", ARGUMENT, (x, a, b) -> x.set(a, b), what, v);
                }
                allowed(sample, "set", (x, a, b) -> x.set(a, b), what, least[what]);
                allowed(sample, "set", (x, a, b) -> x.set(a, b), what, most[what]);
            }
        }
    }

    /** Promise 20: that a step does not exist is named first, then the ring. */
    private static void rings() {
        Call with = (x, a, b) -> x.need(a, b, true);
        Call without = (x, a, b) -> x.need(a, b, false);
        for (Sample sample : ALL) {
            int steps = sample.make.get().about(1);
            List<Integer> others = new ArrayList<>(List.of(LOW, -1, steps, HIGH));
            if (steps > 0) {
                others.add(0);
                others.add(steps - 1);
            }
            for (int wrong : outside(0, steps - 1)) {
                for (int other : others) {
                    refused(sample, "need", PLACE, with, wrong, other);
                    refused(sample, "need", PLACE, with, other, wrong);
                    refused(sample, "need not", PLACE, without, wrong, other);
                    refused(sample, "need not", PLACE, without, other, wrong);
                }
            }
        }
        for (int s = 0; s < 14; s++) {
            for (int other = s; other < 14; other++) {
                refused(FULL, "need", STATE, with, s, other);
                allowed(FULL, "need not", without, s, other);
            }
            for (int other = 0; other < s; other++) {
                allowed(FULL, "need", with, s, other);
            }
        }
    }

    /** Promises 23 and 32: of restore the slot is named first, then that nothing has been saved. */
    private static void states() {
        refused(EMPTY, "undo()", STATE, x -> x.undo());
        Sample undone = new Sample("a card whose states are used up", () -> {
            SpoonCards x = some();
            x.undo();
            x.undo();
            x.undo();
            return x;
        });
        refused(undone, "undo()", STATE, x -> x.undo());
        allowed(SOME, "undo()", x -> x.undo());
        for (Sample sample : ALL) {
            for (int slot : outside(0, 1)) {
                refused(sample, "restore", PLACE, (x, a, b) -> x.restore(a), slot, 0);
            }
        }
        refused(EMPTY, "restore(0)", STATE, x -> x.restore(0));
        refused(EMPTY, "restore(1)", STATE, x -> x.restore(1));
        refused(SOME, "restore(1)", STATE, x -> x.restore(1));
        allowed(SOME, "restore(0)", x -> x.restore(0));
        allowed(FULL, "restore(1)", x -> x.restore(1));
        Sample loaded = new Sample("a card whose slot is emptied by load", () -> {
            SpoonCards x = some();
            x.load();
            return x;
        });
        refused(loaded, "restore(0)", STATE, x -> x.restore(0));
    }

    private static void script(Sample sample, int n, long script, boolean good) {
        String name = "runScript(" + n + ", " + script + ")";
        if (good) {
            allowed(sample, name, x -> x.runScript(n, script));
        } else {
            refused(sample, name, ARGUMENT, x -> x.runScript(n, script));
        }
    }

    /** Promises 29 and 30. */
    private static void scripts() {
        long[] first = {0, 1000000L, 1000000000000L, 1000000000000000000L};
        for (Sample sample : ALL) {
            for (int n : outside(1, 3)) {
                script(sample, n, 0, false);
                script(sample, n, -1, false);
                script(sample, n, 100000, false);
                script(sample, n, Long.MAX_VALUE, false);
            }
            for (int n = 1; n <= 3; n++) {
                script(sample, n, Long.MIN_VALUE, false);
                script(sample, n, -1, false);
                script(sample, n, 0, true);
                script(sample, n, first[n] - 1, true);
                script(sample, n, first[n], false);
                script(sample, n, Long.MAX_VALUE, false);
            }
            for (int m : outside(1, 60)) {
                refused(sample, "simulate(5, " + m + ")", ARGUMENT, x -> x.simulate(5, m));
            }
            for (long seed : new long[] {Long.MIN_VALUE, -1, 0, 1, Long.MAX_VALUE}) {
                allowed(sample, "simulate(" + seed + ", 1)", x -> x.simulate(seed, 1));
                allowed(sample, "simulate(" + seed + ", 60)", x -> x.simulate(seed, 60));
            }
        }
    }
}
