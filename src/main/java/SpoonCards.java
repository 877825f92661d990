/** Recipe cards: amounts are turned to spoons, and steps are put into an order. */
public final class SpoonCards {
    public static final int NONE = -1;

    private static final int MAX_TEXT = 120;
    private static final int MAX_INGREDIENTS = 12;
    private static final int MAX_GRAINS = 50000;
    private static final int MAX_SERVINGS = 24;
    private static final int MAX_STEPS = 14;
    private static final int MAX_MINUTES = 90;
    private static final int MAX_PIECES = 3;
    private static final int MAX_REMEMBERED = 14;
    private static final int MAX_SLACK = 60;
    private static final int MAX_TURNS = 60;
    private static final int MAX_COMMANDS = 3;
    private static final int LAST_MINUTE = 1500;
    private static final int KINDS = 4;
    private static final int MEASURES = 4;
    private static final int ALL_MEASURES = 15;
    private static final int RULES = 4;
    private static final int SLOTS = 2;
    private static final long GROUP = 1000000L;

    /** The grains of each measure; each one is a multiple of the one before it. */
    private static final int[] GRAINS = {6, 48, 144, 2304};

    private static final int KITCHEN = 0;
    private static final int ROUNDING = 1;
    private static final int WASHING = 2;
    private static final int COOKS = 3;
    private static final int RULE = 4;
    private static final int SETTINGS = 5;
    private static final int[] FIRST_SETTING = {15, 1, 2, 1, 0};
    private static final int[] LEAST_SETTING = {1, 0, 0, 1, 0};
    private static final int[] MOST_SETTING = {15, 2, 20, 3, 3};

    private static final int ROUND_DOWN = 0;
    private static final int ROUND_NEAREST = 1;

    private static final int MOST_MINUTES_FIRST = 1;
    private static final int LONGEST_WAY_FIRST = 2;
    private static final int MOST_NEEDED_FIRST = 3;

    private static final int INGREDIENT = 0;
    private static final int STEP = 1;
    private static final int USE = 2;
    private static final int NEED = 3;
    private static final int PANS = 4;
    private static final int SERVINGS = 5;
    private static final int SET = 6;
    private static final int AMOUNT = 7;
    private static final int MINUTES = 8;

    /** The letters by which a text tells the actions 0 to 6, in the order of their numbers. */
    private static final char[] COMMAND_LETTERS = {'i', 's', 'u', 'n', 'k', 'v', 'r'};
    private static final char[] MEASURE_LETTERS = {'p', 't', 'T', 'c'};

    private static final int FINE = 0;
    private static final int NO_SUCH_PLACE = 1;
    private static final int BAD_ARGUMENT = 2;
    private static final int BAD_STATE = 3;

    private final CardText text = new CardText();
    private final Plan presentPlan = new Plan();
    private final Card present = presentPlan.card;
    /** For whatever must not change the present card; each use fills its card anew. */
    private final Plan trialPlan = new Plan();
    private final Card trial = trialPlan.card;
    private final Memory memory = new Memory();
    private final Card[] slots = {new Card(), new Card()};
    private final boolean[] saved = new boolean[SLOTS];

    public SpoonCards() {
    }

    // ---- text

    public int append(int c) throws IllegalArgumentException, IllegalStateException {
        requireArgument(within(c, 0, 255));
        requireState(text.length < MAX_TEXT);
        return text.add((char) c);
    }

    public int clearText() {
        int previous = text.length;
        text.length = 0;
        return previous;
    }

    public int errorPosition() {
        return text.readInto(trial);
    }

    public int load() throws IllegalStateException {
        requireState(text.readInto(trial) == NONE);
        present.copyFrom(trial);
        memory.forget();
        for (int slot = 0; slot < SLOTS; slot++) {
            saved[slot] = false;
        }
        return text.leftOut;
    }

    // ---- what there is

    public int about(int what) throws IllegalArgumentException {
        requireArgument(within(what, 0, 9));
        switch (what) {
            case 0:
                return present.ingredients;
            case 1:
                return present.steps;
            case 2:
                return present.cardServings;
            case 3:
                return present.wantedServings;
            case 4:
                return present.allSpoons(present.wantedServings);
            case 5:
                presentPlan.make();
                return presentPlan.wholeMinutes;
            case 6:
                presentPlan.make();
                return presentPlan.stuckSteps;
            case 7:
                return presentPlan.longestWay();
            case 8:
                return present.allMinutes();
            default:
                return present.unusedIngredients();
        }
    }

    public int ingredientOf(int i, int what) throws IndexOutOfBoundsException, IllegalArgumentException {
        requirePlace(present.hasIngredient(i));
        requireArgument(within(what, 0, 6));
        int wanted = present.wantedServings;
        switch (what) {
            case 0:
                return present.amounts[i];
            case 1:
                return present.scaled(i, wanted);
            case 2:
                return present.rounded(i, wanted);
            case 3:
                return present.spoonsAmong(i, wanted, ALL_MEASURES);
            case 4:
                return present.rounded(i, wanted) - present.scaled(i, wanted);
            case 5:
                return present.usersOf(i);
            default:
                presentPlan.make();
                return presentPlan.firstUse(i);
        }
    }

    public int spoons(int i, int measure) throws IndexOutOfBoundsException, IllegalArgumentException {
        requirePlace(present.hasIngredient(i));
        requireArgument(within(measure, 0, MEASURES - 1));
        return present.spoonsAmong(i, present.wantedServings, 1 << measure);
    }

    public int stepOf(int s, int what) throws IndexOutOfBoundsException, IllegalArgumentException {
        requirePlace(present.hasStep(s));
        requireArgument(within(what, 0, 9));
        switch (what) {
            case 0:
                return present.stepMinutes[s];
            case 1:
                return present.stepPan[s];
            case 2:
                return present.stepHands[s];
            case 3:
                return present.uses[s];
            case 4:
                return present.needs[s];
            case 5:
                return present.neededBy(s);
            case 6:
                presentPlan.findWays();
                return presentPlan.way[s];
            case 7:
                presentPlan.make();
                return presentPlan.begin[s];
            case 8:
                presentPlan.make();
                return presentPlan.end[s];
            default:
                return Integer.bitCount(present.needsInAll(s));
        }
    }

    public int begun(int place) throws IndexOutOfBoundsException {
        presentPlan.make();
        requirePlace(within(place, 0, presentPlan.begunSteps - 1));
        return presentPlan.order[place];
    }

    public int pieces(int kind) throws IndexOutOfBoundsException {
        requirePlace(isKind(kind));
        return present.pieces[kind];
    }

    public int setting(int what) throws IllegalArgumentException {
        requireArgument(isSetting(what));
        return present.settings[what];
    }

    public int during(int minute, int what) throws IllegalArgumentException {
        requireArgument(within(minute, 0, LAST_MINUTE) && within(what, 0, 9));
        presentPlan.make();
        return presentPlan.countAt(minute, what);
    }

    // ---- actions

    public int ingredient(int grains) throws IllegalArgumentException, IllegalStateException {
        return act(INGREDIENT, grains, 0, 0);
    }

    public int amount(int i, int grains) throws IndexOutOfBoundsException, IllegalArgumentException {
        return act(AMOUNT, i, grains, 0);
    }

    public int servings(int card, int wanted) throws IllegalArgumentException {
        return present.allSpoons(act(SERVINGS, card, wanted, 0));
    }

    public int step(int minutes, int pan, boolean hands) throws IllegalArgumentException, IllegalStateException {
        return act(STEP, minutes, pan, bit(hands));
    }

    public int minutes(int s, int minutes) throws IndexOutOfBoundsException, IllegalArgumentException {
        return act(MINUTES, s, minutes, 0);
    }

    public int use(int s, int i, boolean used) throws IndexOutOfBoundsException {
        return act(USE, s, i, bit(used));
    }

    public int need(int s, int other, boolean needed) throws IndexOutOfBoundsException, IllegalStateException {
        return act(NEED, s, other, bit(needed));
    }

    public int pans(int kind, int pieces) throws IndexOutOfBoundsException, IllegalArgumentException {
        return act(PANS, kind, pieces, 0);
    }

    public int set(int what, int v) throws IllegalArgumentException {
        return act(SET, what, v, 0);
    }

    public int undo() throws IllegalStateException {
        requireState(memory.count > 0);
        return memory.takeBack(present);
    }

    // ---- what would be, if nothing else is changed

    public int ifPan(int kind, int what) throws IndexOutOfBoundsException, IllegalArgumentException {
        requirePlace(isKind(kind));
        requireArgument(within(what, 0, 1));
        trial.copyFrom(present);
        trial.pieces[kind]++;
        trialPlan.make();
        return what == 0 ? trialPlan.wholeMinutes : trialPlan.stuckSteps;
    }

    public int ifServed(int wanted, int what) throws IllegalArgumentException {
        requireArgument(within(wanted, 1, MAX_SERVINGS) && within(what, 0, 1));
        return what == 0 ? present.allSpoons(wanted) : present.grainsOff(wanted);
    }

    public int slack(int s) throws IndexOutOfBoundsException {
        requirePlace(present.hasStep(s));
        presentPlan.make();
        if (presentPlan.begin[s] == NONE) {
            return NONE;
        }
        trial.copyFrom(present);
        for (int more = 1; more <= MAX_SLACK; more++) {
            trial.stepMinutes[s]++;
            trialPlan.make();
            if (trialPlan.wholeMinutes > presentPlan.wholeMinutes) {
                return more - 1;
            }
        }
        return MAX_SLACK;
    }

    public int bestRule() {
        trial.copyFrom(present);
        int best = NONE;
        int fewestStuck = 0;
        int fewestMinutes = 0;
        for (int rule = 0; rule < RULES; rule++) {
            trial.settings[RULE] = rule;
            trialPlan.make();
            int stuck = trialPlan.stuckSteps;
            int whole = trialPlan.wholeMinutes;
            boolean better = stuck < fewestStuck || stuck == fewestStuck && whole < fewestMinutes;
            if (best == NONE || better) {
                best = rule;
                fewestStuck = stuck;
                fewestMinutes = whole;
            }
        }
        return best;
    }

    public int bestServings(int least, int most) throws IllegalArgumentException {
        requireArgument(within(least, 1, MAX_SERVINGS) && within(most, least, MAX_SERVINGS));
        int best = least;
        int leastOff = present.grainsOff(least);
        for (int wanted = least + 1; wanted <= most; wanted++) {
            int off = present.grainsOff(wanted);
            if (off < leastOff) {
                best = wanted;
                leastOff = off;
            }
        }
        return best;
    }

    // ---- scripts, simulations

    public int runScript(int n, long script) throws IllegalArgumentException {
        requireArgument(within(n, 1, MAX_COMMANDS));
        long unit = 1;
        for (int command = 0; command < n; command++) {
            unit *= GROUP;
        }
        requireArgument(script >= 0 && script < unit);
        trial.copyFrom(present);
        long rest = script;
        for (int command = 0; command < n; command++) {
            unit /= GROUP;
            long group = unit < 1 ? 0 : rest / unit;
            rest -= group * unit;
            trialPlan.make();
            if (!succeeds((int) group)) {
                return command;
            }
        }
        return NONE;
    }

    public int simulate(long seed, int m) throws IllegalArgumentException {
        requireArgument(within(m, 1, MAX_TURNS));
        trial.copyFrom(present);
        long x = seed;
        for (int turn = 0; turn < m; turn++) {
            x = x * 6364136223846793005L + 1442695040888963407L;
            int r = (int) (x >>> 33);
            takeTurn(r % 8, r / 8);
        }
        trialPlan.make();
        int lastDigit = trial.allSpoons(trial.wantedServings) % 10;
        return 1000 * trialPlan.wholeMinutes + 10 * trialPlan.stuckSteps + lastDigit;
    }

    // ---- save slots

    public int save(int slot) throws IndexOutOfBoundsException {
        requirePlace(isSlot(slot));
        slots[slot].copyFrom(present);
        saved[slot] = true;
        return present.steps;
    }

    public int restore(int slot) throws IndexOutOfBoundsException, IllegalStateException {
        requirePlace(isSlot(slot));
        requireState(saved[slot]);
        present.copyFrom(slots[slot]);
        memory.forget();
        return present.steps;
    }

    // ---- what the face shares

    private int act(int action, int a, int b, int c) {
        refuse(present.faultOf(action, a, b, c));
        memory.remember(present);
        return present.perform(action, a, b, c);
    }

    private static void refuse(int fault) {
        requirePlace(fault != NO_SUCH_PLACE);
        requireArgument(fault != BAD_ARGUMENT);
        requireState(fault != BAD_STATE);
    }

    private static void requirePlace(boolean exists) {
        if (!exists) {
            throw new IndexOutOfBoundsException("there is no such place");
        }
    }

    private static void requireArgument(boolean inRange) {
        if (!inRange) {
            throw new IllegalArgumentException("an argument is out of its range");
        }
    }

    private static void requireState(boolean allowed) {
        if (!allowed) {
            throw new IllegalStateException("this cannot be done now");
        }
    }

    private static boolean within(int value, int least, int most) {
        return least <= value && value <= most;
    }

    private static boolean isKind(int kind) {
        return within(kind, 0, KINDS - 1);
    }

    private static boolean isSetting(int what) {
        return within(what, 0, SETTINGS - 1);
    }

    private static boolean isSlot(int slot) {
        return within(slot, 0, SLOTS - 1);
    }

    private static int bit(boolean on) {
        return on ? 1 : 0;
    }

    private static boolean contains(int set, int element) {
        return (set >> element & 1) == 1;
    }

    private static int with(int set, int element, boolean in) {
        return in ? set | 1 << element : set & ~(1 << element);
    }

    /** Runs one command of a script, six digits, on the trial card, whose plan has been made. */
    private boolean succeeds(int group) {
        int front = group / 1000 % 100;
        int back = group / 10 % 100;
        int last = group % 10;
        switch (group / 100000) {
            case 1:
                return last == 0 && trial.attempt(SERVINGS, front, back, 0);
            case 2:
                return last == 0 && trial.attempt(MINUTES, front, back, 0);
            case 3:
                return last <= 1 && trial.attempt(NEED, front, back, last);
            case 4:
                return group % 1000 == 0 && trial.attempt(PANS, front / 10, front % 10, 0);
            case 5:
                return group / 100 % 100 == 0 && trial.attempt(SET, front / 10, group % 100, 0);
            case 6:
                return last == 0 && beginsBy(front, back);
            case 7:
                return front == 0 && trialPlan.wholeMinutes <= group % 1000;
            case 8:
                return group / 100 % 10 == 0 && takesAtMost(front, group % 100);
            case 9:
                return front == 0 && back == 0 && trialPlan.stuckSteps <= last;
            default:
                return false;
        }
    }

    private boolean beginsBy(int s, int minute) {
        return trial.hasStep(s) && trialPlan.begin[s] != NONE && trialPlan.begin[s] <= minute;
    }

    private boolean takesAtMost(int i, int most) {
        return trial.hasIngredient(i) && trial.spoonsAmong(i, trial.wantedServings, ALL_MEASURES) <= most;
    }

    /** One turn of a simulation, on the trial card. */
    private void takeTurn(int turn, int q) {
        switch (turn) {
            case 0:
                trial.attempt(INGREDIENT, 1 + q % 5000, 0, 0);
                break;
            case 1:
            case 2:
                trial.attempt(STEP, 1 + q % 40, q / 64 % 5 - 1, q / 512 % 2);
                break;
            case 3:
                trial.attempt(USE, q % 14, q / 16 % 12, bit(q / 256 % 4 != 0));
                break;
            case 4:
            case 5:
                trial.attempt(NEED, q % 14, q / 16 % 14, bit(q / 256 % 4 != 0));
                break;
            case 6:
                if (q / 64 % 2 == 0) {
                    trial.attempt(PANS, q % 4, q / 4 % 4, 0);
                } else {
                    trial.attempt(SERVINGS, 1 + q % 24, 1 + q / 128 % 24, 0);
                }
                break;
            default:
                trial.attempt(SET, q % 5, q / 8 % 16, 0);
                break;
        }
    }

    /** The state: whatever actions change. All values in it have been tested by faultOf. */
    private static final class Card {
        int ingredients;
        int steps;
        int cardServings;
        int wantedServings;
        final int[] amounts = new int[MAX_INGREDIENTS];
        final int[] stepMinutes = new int[MAX_STEPS];
        final int[] stepPan = new int[MAX_STEPS];
        final int[] stepHands = new int[MAX_STEPS];
        /** Of each step the ingredients that it uses, as a set. */
        final int[] uses = new int[MAX_STEPS];
        /** Of each step the steps that it needs directly, as a set. */
        final int[] needs = new int[MAX_STEPS];
        final int[] pieces = new int[KINDS];
        final int[] settings = new int[SETTINGS];

        Card() {
            makeNew();
        }

        void makeNew() {
            ingredients = 0;
            steps = 0;
            cardServings = 4;
            wantedServings = 4;
            for (int kind = 0; kind < KINDS; kind++) {
                pieces[kind] = 1;
            }
            System.arraycopy(FIRST_SETTING, 0, settings, 0, SETTINGS);
        }

        void copyFrom(Card other) {
            ingredients = other.ingredients;
            steps = other.steps;
            cardServings = other.cardServings;
            wantedServings = other.wantedServings;
            System.arraycopy(other.amounts, 0, amounts, 0, MAX_INGREDIENTS);
            System.arraycopy(other.stepMinutes, 0, stepMinutes, 0, MAX_STEPS);
            System.arraycopy(other.stepPan, 0, stepPan, 0, MAX_STEPS);
            System.arraycopy(other.stepHands, 0, stepHands, 0, MAX_STEPS);
            System.arraycopy(other.uses, 0, uses, 0, MAX_STEPS);
            System.arraycopy(other.needs, 0, needs, 0, MAX_STEPS);
            System.arraycopy(other.pieces, 0, pieces, 0, KINDS);
            System.arraycopy(other.settings, 0, settings, 0, SETTINGS);
        }

        boolean hasIngredient(int i) {
            return within(i, 0, ingredients - 1);
        }

        boolean hasStep(int s) {
            return within(s, 0, steps - 1);
        }

        /** Performs an action, or leaves it out if its method would throw an exception. */
        boolean attempt(int action, int a, int b, int c) {
            if (faultOf(action, a, b, c) != FINE) {
                return false;
            }
            perform(action, a, b, c);
            return true;
        }

        /** Which exception the method of an action would throw, if any. */
        int faultOf(int action, int a, int b, int c) {
            switch (action) {
                case INGREDIENT:
                    return firstFault(true, within(a, 1, MAX_GRAINS), ingredients < MAX_INGREDIENTS);
                case STEP:
                    return firstFault(true, within(a, 1, MAX_MINUTES) && within(b, NONE, KINDS - 1), steps < MAX_STEPS);
                case USE:
                    return firstFault(hasStep(a) && hasIngredient(b), true, true);
                case NEED:
                    if (!hasStep(a) || !hasStep(b)) {
                        return NO_SUCH_PLACE;
                    }
                    return c == 1 && (a == b || contains(needsInAll(b), a)) ? BAD_STATE : FINE;
                case PANS:
                    return firstFault(isKind(a), within(b, 0, MAX_PIECES), true);
                case SERVINGS:
                    return firstFault(true, within(a, 1, MAX_SERVINGS) && within(b, 1, MAX_SERVINGS), true);
                case SET:
                    return firstFault(true, isSetting(a) && within(b, LEAST_SETTING[a], MOST_SETTING[a]), true);
                case AMOUNT:
                    return firstFault(hasIngredient(a), within(b, 1, MAX_GRAINS), true);
                default:
                    return firstFault(hasStep(a), within(b, 1, MAX_MINUTES), true);
            }
        }

        /** All methods of the document name their exceptions in this order. */
        private static int firstFault(boolean exists, boolean inRange, boolean allowed) {
            if (!exists) {
                return NO_SUCH_PLACE;
            }
            if (!inRange) {
                return BAD_ARGUMENT;
            }
            return allowed ? FINE : BAD_STATE;
        }

        /** Answers what the action's method does; for the servings the wanted ones. */
        int perform(int action, int a, int b, int c) {
            switch (action) {
                case INGREDIENT:
                    amounts[ingredients] = a;
                    return ingredients++;
                case STEP:
                    return addStep(a, b, c);
                case USE:
                    uses[a] = with(uses[a], b, c == 1);
                    return Integer.bitCount(uses[a]);
                case NEED:
                    needs[a] = with(needs[a], b, c == 1);
                    return Integer.bitCount(needs[a]);
                case PANS:
                    return replace(pieces, a, b);
                case SERVINGS:
                    cardServings = a;
                    wantedServings = b;
                    return wantedServings;
                case SET:
                    return replace(settings, a, b);
                case AMOUNT:
                    return replace(amounts, a, b);
                default:
                    return replace(stepMinutes, a, b);
            }
        }

        private int addStep(int itsMinutes, int itsPan, int itsHands) {
            stepMinutes[steps] = itsMinutes;
            stepPan[steps] = itsPan;
            stepHands[steps] = itsHands;
            uses[steps] = 0;
            needs[steps] = 0;
            return steps++;
        }

        private static int replace(int[] row, int index, int value) {
            int previous = row[index];
            row[index] = value;
            return previous;
        }

        int scaled(int i, int wanted) {
            int grains = cardServings < 1 ? 0 : amounts[i] * wanted / cardServings;
            return grains < 1 ? 1 : grains;
        }

        int rounded(int i, int wanted) {
            int unit = GRAINS[leastMeasure()];
            int grains = scaled(i, wanted);
            int multiple;
            if (settings[ROUNDING] == ROUND_DOWN) {
                multiple = grains / unit;
            } else if (settings[ROUNDING] == ROUND_NEAREST) {
                multiple = (2 * grains + unit) / (2 * unit);
            } else {
                multiple = (grains + unit - 1) / unit;
            }
            return multiple < 1 ? unit : multiple * unit;
        }

        private int leastMeasure() {
            for (int measure = 0; measure < MEASURES; measure++) {
                if (contains(settings[KITCHEN], measure)) {
                    return measure;
                }
            }
            return 0;
        }

        /** How many of the spoons of an ingredient are of the measures asked for, a set. */
        int spoonsAmong(int i, int wanted, int asked) {
            int rest = rounded(i, wanted);
            int count = 0;
            for (int measure = MEASURES - 1; measure >= 0; measure--) {
                if (contains(settings[KITCHEN], measure)) {
                    count += contains(asked, measure) ? rest / GRAINS[measure] : 0;
                    rest %= GRAINS[measure];
                }
            }
            return count;
        }

        int allSpoons(int wanted) {
            int sum = 0;
            for (int i = 0; i < ingredients; i++) {
                sum += spoonsAmong(i, wanted, ALL_MEASURES);
            }
            return sum;
        }

        /** By how much all rounded amounts are off their scaled ones, without signs. */
        int grainsOff(int wanted) {
            int sum = 0;
            for (int i = 0; i < ingredients; i++) {
                sum += Math.abs(rounded(i, wanted) - scaled(i, wanted));
            }
            return sum;
        }

        int usersOf(int i) {
            int count = 0;
            for (int s = 0; s < steps; s++) {
                count += bit(contains(uses[s], i));
            }
            return count;
        }

        int unusedIngredients() {
            int count = 0;
            for (int i = 0; i < ingredients; i++) {
                count += bit(usersOf(i) == 0);
            }
            return count;
        }

        int allMinutes() {
            int sum = 0;
            for (int s = 0; s < steps; s++) {
                sum += stepMinutes[s];
            }
            return sum;
        }

        /** The steps that need s directly, as a set. */
        int neededBy(int s) {
            int set = 0;
            for (int other = 0; other < steps; other++) {
                set = with(set, other, contains(needs[other], s));
            }
            return set;
        }

        /** The steps that s needs, directly or by others, as a set. */
        int needsInAll(int s) {
            int set = needs[s];
            // a chain of needs is shorter than there are steps, and each round follows all of them by one
            for (int round = 0; round < steps; round++) {
                for (int other = 0; other < steps; other++) {
                    if (contains(set, other)) {
                        set |= needs[other];
                    }
                }
            }
            return set;
        }
    }

    /** The plan of a card: when each of its steps begins and ends. */
    private static final class Plan {
        final Card card = new Card();
        final int[] begin = new int[MAX_STEPS];
        final int[] end = new int[MAX_STEPS];
        final int[] way = new int[MAX_STEPS];
        /** By the rule, the step of the greatest weight is begun first. */
        private final int[] weight = new int[MAX_STEPS];
        /** The steps that have begun, in the order in which they were begun. */
        final int[] order = new int[MAX_STEPS];
        int begunSteps;
        int stuckSteps;
        int wholeMinutes;
        private int doneSteps;
        private int freeCooks;
        private final int[] freePieces = new int[KINDS];

        int longestWay() {
            findWays();
            int longest = 0;
            for (int s = 0; s < card.steps; s++) {
                longest = Math.max(longest, way[s]);
            }
            return longest;
        }

        /** The first minute in which a step that uses the ingredient begins. */
        int firstUse(int i) {
            for (int place = 0; place < begunSteps; place++) {
                if (contains(card.uses[order[place]], i)) {
                    return begin[order[place]];
                }
            }
            return NONE;
        }

        int countAt(int minute, int what) {
            int count = 0;
            for (int place = 0; place < begunSteps; place++) {
                count += bit(isCountedAt(minute, what, order[place]));
            }
            return count;
        }

        private boolean isCountedAt(int minute, int what, int s) {
            boolean busy = begin[s] <= minute && minute < end[s];
            if (what == 0) {
                return busy && card.stepHands[s] == 1;
            }
            if (what <= KINDS) {
                return busy && card.stepPan[s] == what - 1;
            }
            if (what <= 2 * KINDS) {
                return card.stepPan[s] == what - 1 - KINDS && end[s] <= minute && minute < freeAgain(s);
            }
            return end[s] <= minute;
        }

        /** From this minute on the pan of a step is neither in use nor washed. */
        private int freeAgain(int s) {
            return end[s] + card.settings[WASHING];
        }

        /** Something can begin only in the minute 0, when a step ends, or when a pan has been washed. */
        void make() {
            weigh();
            begunSteps = 0;
            wholeMinutes = 0;
            for (int s = 0; s < card.steps; s++) {
                begin[s] = NONE;
                end[s] = NONE;
            }
            int minute = 0;
            for (int change = 0; change <= 2 * MAX_STEPS && minute != NONE; change++) {
                lookAround(minute);
                beginSteps(minute);
                minute = nextChange(minute);
            }
            stuckSteps = card.steps - begunSteps;
        }

        private void weigh() {
            int rule = card.settings[RULE];
            if (rule == LONGEST_WAY_FIRST) {
                findWays();
            }
            for (int s = 0; s < card.steps; s++) {
                weight[s] = weightBy(rule, s);
            }
        }

        private int weightBy(int rule, int s) {
            switch (rule) {
                case MOST_MINUTES_FIRST:
                    return card.stepMinutes[s];
                case LONGEST_WAY_FIRST:
                    return way[s];
                case MOST_NEEDED_FIRST:
                    return Integer.bitCount(card.neededBy(s));
                default:
                    return 0;
            }
        }

        void findWays() {
            System.arraycopy(card.stepMinutes, 0, way, 0, MAX_STEPS);
            // a chain of needs has at most all steps in it, and each round is right for one step more
            for (int round = 1; round < card.steps; round++) {
                for (int s = 0; s < card.steps; s++) {
                    lengthenWays(s);
                }
            }
        }

        private void lengthenWays(int s) {
            for (int other = 0; other < card.steps; other++) {
                if (contains(card.needs[s], other)) {
                    way[other] = Math.max(way[other], card.stepMinutes[other] + way[s]);
                }
            }
        }

        private void lookAround(int minute) {
            doneSteps = 0;
            freeCooks = card.settings[COOKS];
            System.arraycopy(card.pieces, 0, freePieces, 0, KINDS);
            for (int place = 0; place < begunSteps; place++) {
                int s = order[place];
                if (end[s] <= minute) {
                    doneSteps = with(doneSteps, s, true);
                } else {
                    freeCooks -= card.stepHands[s];
                }
                if (minute < freeAgain(s)) {
                    takePiece(s);
                }
            }
        }

        private void takePiece(int s) {
            int kind = card.stepPan[s];
            if (isKind(kind)) {
                freePieces[kind]--;
            }
        }

        private void beginSteps(int minute) {
            for (int count = 0; count < card.steps; count++) {
                int s = firstToBegin();
                if (s == NONE) {
                    return;
                }
                begin[s] = minute;
                end[s] = minute + card.stepMinutes[s];
                order[begunSteps] = s;
                begunSteps++;
                wholeMinutes = Math.max(wholeMinutes, end[s]);
                freeCooks -= card.stepHands[s];
                takePiece(s);
            }
        }

        private int firstToBegin() {
            int first = NONE;
            for (int s = 0; s < card.steps; s++) {
                if (canBegin(s) && (first == NONE || weight[s] > weight[first])) {
                    first = s;
                }
            }
            return first;
        }

        private boolean canBegin(int s) {
            int kind = card.stepPan[s];
            return begin[s] == NONE
                && (card.needs[s] & ~doneSteps) == 0
                && freeCooks >= card.stepHands[s]
                && (!isKind(kind) || freePieces[kind] > 0);
        }

        /** The first minute behind this one in which a step ends or a pan has been washed. */
        private int nextChange(int minute) {
            int next = NONE;
            for (int place = 0; place < begunSteps; place++) {
                int s = order[place];
                next = sooner(next, end[s], minute);
                next = sooner(next, freeAgain(s), minute);
            }
            return next;
        }

        private static int sooner(int next, int other, int minute) {
            return other > minute && (next == NONE || other < next) ? other : next;
        }
    }

    /** The last states, so that actions can be taken back; one more pushes out the oldest one. */
    private static final class Memory {
        private final Card[] states = new Card[MAX_REMEMBERED];
        private int next;
        int count;

        Memory() {
            for (int k = 0; k < MAX_REMEMBERED; k++) {
                states[k] = new Card();
            }
        }

        void remember(Card card) {
            states[next].copyFrom(card);
            next = next + 1 < MAX_REMEMBERED ? next + 1 : 0;
            count = Math.min(count + 1, MAX_REMEMBERED);
        }

        int takeBack(Card card) {
            next = next > 0 ? next - 1 : MAX_REMEMBERED - 1;
            card.copyFrom(states[next]);
            count--;
            return count;
        }

        void forget() {
            count = 0;
        }
    }

    /** The text buffer, and what it tells as a card. */
    private static final class CardText {
        private final char[] signs = new char[MAX_TEXT];
        int length;
        /** The commands that the last reading has left out. */
        int leftOut;
        private int at;
        /** Whether the sign at the place "at" is not allowed there, or is missing. */
        private boolean wrong;
        /** The command that has been read last: its action, and what this is called with. */
        private int action;
        private int first;
        private int second;
        private int third;

        int add(char sign) {
            if (length < MAX_TEXT) {
                signs[length] = sign;
                length++;
            }
            return length;
        }

        /** Makes the card new and does the commands on it; answers the error position, or NONE. */
        int readInto(Card card) {
            card.makeNew();
            leftOut = 0;
            at = 0;
            wrong = false;
            readSign('C');
            for (int command = 0; command < MAX_TEXT && !wrong && at < length; command++) {
                readCommand(card);
                if (!wrong && !card.attempt(action, first, second, third)) {
                    leftOut++;
                }
            }
            return wrong ? at : NONE;
        }

        private void readCommand(Card card) {
            switch (readLetter(COMMAND_LETTERS)) {
                case INGREDIENT:
                    keep(INGREDIENT, readGrains(), 0, 0);
                    break;
                case STEP:
                    keep(STEP, readNumber(1, MAX_MINUTES), readPan(), readDigit(0, 1));
                    break;
                case USE:
                    keep(USE, readStep(), readNumber(0, MAX_INGREDIENTS - 1), 1);
                    break;
                case NEED:
                    keep(NEED, readStep(), readStep(), 1);
                    break;
                case PANS:
                    keep(PANS, readDigit(0, KINDS - 1), readDigit(0, MAX_PIECES), 0);
                    break;
                case SERVINGS:
                    keep(SERVINGS, card.cardServings, readNumber(1, MAX_SERVINGS), 0);
                    break;
                default:
                    keep(SET, RULE, readDigit(0, RULES - 1), 0);
                    break;
            }
        }

        private void keep(int itsAction, int a, int b, int c) {
            action = itsAction;
            first = a;
            second = b;
            third = c;
        }

        private int readStep() {
            return readNumber(0, MAX_STEPS - 1);
        }

        private int readPan() {
            int kind = readDigit(0, KINDS);
            return isKind(kind) ? kind : NONE;
        }

        private int readGrains() {
            int number = readNumber(0, 99);
            int above = 0;
            int below = 1;
            if (isNext('+')) {
                at++;
                above = readDigit(1, 7);
                readSign('/');
                below = readDigit(above + 1, 8);
            }
            int measure = readLetter(MEASURE_LETTERS);
            if (wrong || measure < 0 || below < 1) {
                return 0;
            }
            return GRAINS[measure] * number + GRAINS[measure] * above / below;
        }

        /** Two digits for a number from least to most; the first one is that of such a number. */
        private int readNumber(int least, int most) {
            int tens = readDigit(least / 10, most / 10);
            int lowest = tens == least / 10 ? least % 10 : 0;
            int highest = tens == most / 10 ? most % 10 : 9;
            return 10 * tens + readDigit(lowest, highest);
        }

        private int readDigit(int least, int most) {
            for (int digit = least; digit <= most; digit++) {
                if (isNext((char) ('0' + digit))) {
                    at++;
                    return digit;
                }
            }
            wrong = true;
            return 0;
        }

        /** The index of the next sign among the letters. */
        private int readLetter(char[] letters) {
            for (int k = 0; k < letters.length; k++) {
                if (isNext(letters[k])) {
                    at++;
                    return k;
                }
            }
            wrong = true;
            return NONE;
        }

        private void readSign(char sign) {
            if (isNext(sign)) {
                at++;
            } else {
                wrong = true;
            }
        }

        /** Behind a wrong sign nothing is read any more. */
        private boolean isNext(char sign) {
            return !wrong && at < length && signs[at] == sign;
        }
    }
}
