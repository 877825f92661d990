import java.util.ArrayDeque;
import java.util.ArrayList;
import java.util.Arrays;
import java.util.Deque;
import java.util.List;
import java.util.TreeSet;
import java.util.regex.Matcher;
import java.util.regex.Pattern;

/**
 * The document once more, as plainly as can be and by other means than the program: minute by minute,
 * with sets and lists, and the text by a pattern. ModelTest compares the two.
 */
final class PlainCards {
    private static final int[] GRAINS = {6, 48, 144, 2304};
    private static final String FRACTION = "(?:1/[2-8]|2/[3-8]|3/[4-8]|4/[5-8]|5/[678]|6/[78]|7/8)";
    private static final String STEP = "(?:0[0-9]|1[0-3])";
    private static final String COMMAND = "i[0-9]{2}(?:\\+" + FRACTION + ")?[ptTc]"
        + "|s(?:0[1-9]|[1-8][0-9]|90)[0-4][01]|u" + STEP + "(?:0[0-9]|1[01])|n" + STEP + STEP
        + "|k[0-3][0-3]|v(?:0[1-9]|1[0-9]|2[0-4])|r[0-3]";
    private static final Pattern CARD = Pattern.compile("C(?:" + COMMAND + ")*");

    /** A step and its place in the plan. */
    private static final class Step {
        int number;
        int minutes;
        int pan;
        boolean hands;
        TreeSet<Integer> uses = new TreeSet<>();
        TreeSet<Integer> needs = new TreeSet<>();
        int begin;
        int end;

        Step copy() {
            Step step = new Step();
            step.number = number;
            step.minutes = minutes;
            step.pan = pan;
            step.hands = hands;
            step.uses.addAll(uses);
            step.needs.addAll(needs);
            return step;
        }
    }

    private List<Integer> amounts = new ArrayList<>();
    private List<Step> steps = new ArrayList<>();
    private int card = 4;
    private int wanted = 4;
    private int[] pieces = {1, 1, 1, 1};
    private int[] settings = {15, 1, 2, 1, 0};
    private String text = "";
    private Deque<PlainCards> remembered = new ArrayDeque<>();
    private PlainCards[] slots = new PlainCards[2];
    private List<Step> begun = new ArrayList<>();

    private static void place(boolean exists) {
        if (!exists) throw new IndexOutOfBoundsException();
    }

    private static void argument(boolean good) {
        if (!good) throw new IllegalArgumentException();
    }

    private static void state(boolean good) {
        if (!good) throw new IllegalStateException();
    }

    private PlainCards copy() {
        PlainCards copy = new PlainCards();
        copy.take(this);
        return copy;
    }

    private void take(PlainCards other) {
        amounts = new ArrayList<>(other.amounts);
        steps = new ArrayList<>();
        for (Step step : other.steps) steps.add(step.copy());
        card = other.card;
        wanted = other.wanted;
        pieces = other.pieces.clone();
        settings = other.settings.clone();
    }

    private void remember() {
        remembered.addLast(copy());
        if (remembered.size() > 14) remembered.removeFirst();
    }

    // ---- text

    int append(int c) {
        argument(c >= 0 && c < 256);
        state(text.length() < 120);
        text += (char) c;
        return text.length();
    }

    int clearText() {
        int length = text.length();
        text = "";
        return length;
    }

    int errorPosition() {
        for (int length = 1; length <= text.length(); length++) {
            Matcher matcher = CARD.matcher(text.substring(0, length));
            if (!matcher.matches() && !matcher.hitEnd()) return length - 1;
        }
        return CARD.matcher(text).matches() ? -1 : text.length();
    }

    int load() {
        state(errorPosition() == -1);
        take(new PlainCards());
        remembered.clear();
        Arrays.fill(slots, null);
        int leftOut = 0;
        Matcher matcher = Pattern.compile(COMMAND).matcher(text);
        while (matcher.find()) {
            try {
                obey(matcher.group());
            } catch (RuntimeException refused) {
                leftOut++;
            }
        }
        remembered.clear();
        return leftOut;
    }

    private void obey(String command) {
        char letter = command.charAt(0);
        int first = Integer.parseInt(command.substring(1, letter == 'k' || letter == 'r' ? 2 : 3));
        if (letter == 'i') {
            int measure = GRAINS["ptTc".indexOf(command.charAt(command.length() - 1))];
            int more = command.contains("+") ? measure * (command.charAt(4) - '0') / (command.charAt(6) - '0') : 0;
            ingredient(measure * first + more);
        } else if (letter == 's') {
            step(first, "0123".indexOf(command.charAt(3)), command.charAt(4) == '1');
        } else if (letter == 'u') {
            use(first, Integer.parseInt(command.substring(3)), true);
        } else if (letter == 'n') {
            need(first, Integer.parseInt(command.substring(3)), true);
        } else if (letter == 'k') {
            pans(first, command.charAt(2) - '0');
        } else if (letter == 'v') {
            servings(card, first);
        } else {
            set(4, first);
        }
    }

    // ---- amounts

    private int scaled(int i) {
        return Math.max(1, amounts.get(i) * wanted / card);
    }

    private int rounded(int i) {
        int unit = GRAINS[Integer.numberOfTrailingZeros(settings[0])];
        int best = unit;
        for (int multiple = unit; multiple <= scaled(i) + unit; multiple += unit) {
            int off = Math.abs(multiple - scaled(i));
            boolean better = settings[1] == 0 ? multiple <= scaled(i)
                : settings[1] == 1 ? off <= Math.abs(best - scaled(i)) : best < scaled(i);
            if (better) best = multiple;
        }
        return best;
    }

    private int[] spoonsOf(int i) {
        int[] counts = new int[4];
        int rest = rounded(i);
        for (int measure = 3; measure >= 0; measure--) {
            while ((settings[0] & 1 << measure) != 0 && rest >= GRAINS[measure]) {
                rest -= GRAINS[measure];
                counts[measure]++;
            }
        }
        return counts;
    }

    private int together(int i) {
        return Arrays.stream(spoonsOf(i)).sum();
    }

    private int allSpoons() {
        int sum = 0;
        for (int i = 0; i < amounts.size(); i++) sum += together(i);
        return sum;
    }

    // ---- the plan

    private int way(Step step) {
        int longest = 0;
        for (Step other : steps) {
            if (other.needs.contains(step.number)) longest = Math.max(longest, way(other));
        }
        return step.minutes + longest;
    }

    private TreeSet<Integer> neededBy(int s) {
        TreeSet<Integer> all = new TreeSet<>();
        for (Step other : steps) if (other.needs.contains(s)) all.add(other.number);
        return all;
    }

    private void needsInAll(int s, TreeSet<Integer> all) {
        for (int other : steps.get(s).needs) if (all.add(other)) needsInAll(other, all);
    }

    private int weight(Step step) {
        switch (settings[4]) {
            case 1: return step.minutes;
            case 2: return way(step);
            case 3: return neededBy(step.number).size();
            default: return 0;
        }
    }

    private int count(int minute, int what) {
        int count = 0;
        for (Step step : begun) {
            boolean running = step.begin <= minute && minute < step.end;
            boolean washing = step.end <= minute && minute < step.end + settings[2];
            if (what == 0 && running && step.hands) count++;
            if (what >= 1 && what <= 4 && running && step.pan == what - 1) count++;
            if (what >= 5 && what <= 8 && washing && step.pan == what - 5) count++;
            if (what == 9 && step.end <= minute) count++;
        }
        return count;
    }

    private boolean canBegin(Step step, int minute) {
        if (begun.contains(step)) return false;
        for (int other : step.needs) {
            Step needed = steps.get(other);
            if (!begun.contains(needed) || needed.end > minute) return false;
        }
        if (step.hands && count(minute, 0) >= settings[3]) return false;
        return step.pan == -1 || count(minute, 1 + step.pan) + count(minute, 5 + step.pan) < pieces[step.pan];
    }

    private PlainCards plan() {
        begun.clear();
        for (Step step : steps) {
            step.begin = -1;
            step.end = -1;
        }
        for (int minute = 0, quiet = 0; quiet <= 180; minute++, quiet++) {
            for (Step first = null; ; first = null) {
                for (Step step : steps) {
                    if (canBegin(step, minute) && (first == null || weight(step) > weight(first))) first = step;
                }
                if (first == null) break;
                first.begin = minute;
                first.end = minute + first.minutes;
                begun.add(first);
                quiet = 0;
            }
        }
        return this;
    }

    private int whole() {
        int latest = 0;
        for (Step step : plan().begun) latest = Math.max(latest, step.end);
        return latest;
    }

    private int stuck() {
        return steps.size() - plan().begun.size();
    }

    // ---- what there is

    int about(int what) {
        argument(what >= 0 && what <= 9);
        TreeSet<Integer> used = new TreeSet<>();
        int longest = 0;
        int minutes = 0;
        for (Step step : steps) {
            used.addAll(step.uses);
            longest = Math.max(longest, way(step));
            minutes += step.minutes;
        }
        return new int[] {amounts.size(), steps.size(), card, wanted, allSpoons(), whole(), stuck(), longest, minutes,
            amounts.size() - used.size()}[what];
    }

    int ingredientOf(int i, int what) {
        place(i >= 0 && i < amounts.size());
        argument(what >= 0 && what <= 6);
        int users = 0;
        int first = 9999;
        plan();
        for (Step step : steps) {
            if (step.uses.contains(i)) {
                users++;
                if (begun.contains(step)) first = Math.min(first, step.begin);
            }
        }
        return new int[] {amounts.get(i), scaled(i), rounded(i), together(i), rounded(i) - scaled(i), users,
            first == 9999 ? -1 : first}[what];
    }

    int spoons(int i, int measure) {
        place(i >= 0 && i < amounts.size());
        argument(measure >= 0 && measure < 4);
        return spoonsOf(i)[measure];
    }

    private static int set(TreeSet<Integer> all) {
        int bits = 0;
        for (int one : all) bits += 1 << one;
        return bits;
    }

    int stepOf(int s, int what) {
        place(s >= 0 && s < steps.size());
        argument(what >= 0 && what <= 9);
        Step step = steps.get(s);
        plan();
        TreeSet<Integer> all = new TreeSet<>();
        needsInAll(s, all);
        return new int[] {step.minutes, step.pan, step.hands ? 1 : 0, set(step.uses), set(step.needs),
            set(neededBy(s)), way(step), step.begin, step.end, all.size()}[what];
    }

    int begun(int place) {
        place(place >= 0 && place < plan().begun.size());
        return begun.get(place).number;
    }

    int pieces(int kind) {
        place(kind >= 0 && kind < 4);
        return pieces[kind];
    }

    int setting(int what) {
        argument(what >= 0 && what < 5);
        return settings[what];
    }

    int during(int minute, int what) {
        argument(minute >= 0 && minute <= 1500 && what >= 0 && what <= 9);
        return plan().count(minute, what);
    }

    // ---- actions

    int ingredient(int grains) {
        argument(grains >= 1 && grains <= 50000);
        state(amounts.size() < 12);
        remember();
        amounts.add(grains);
        return amounts.size() - 1;
    }

    int amount(int i, int grains) {
        place(i >= 0 && i < amounts.size());
        argument(grains >= 1 && grains <= 50000);
        remember();
        return amounts.set(i, grains);
    }

    int servings(int newCard, int newWanted) {
        argument(newCard >= 1 && newCard <= 24 && newWanted >= 1 && newWanted <= 24);
        remember();
        card = newCard;
        wanted = newWanted;
        return allSpoons();
    }

    int step(int minutes, int pan, boolean hands) {
        argument(minutes >= 1 && minutes <= 90 && pan >= -1 && pan <= 3);
        state(steps.size() < 14);
        remember();
        Step step = new Step();
        step.number = steps.size();
        step.minutes = minutes;
        step.pan = pan;
        step.hands = hands;
        steps.add(step);
        return step.number;
    }

    int minutes(int s, int minutes) {
        place(s >= 0 && s < steps.size());
        argument(minutes >= 1 && minutes <= 90);
        remember();
        int previous = steps.get(s).minutes;
        steps.get(s).minutes = minutes;
        return previous;
    }

    private static int change(TreeSet<Integer> all, int one, boolean in) {
        if (in) all.add(one);
        else all.remove(one);
        return all.size();
    }

    int use(int s, int i, boolean used) {
        place(s >= 0 && s < steps.size() && i >= 0 && i < amounts.size());
        remember();
        return change(steps.get(s).uses, i, used);
    }

    int need(int s, int other, boolean needed) {
        place(s >= 0 && s < steps.size() && other >= 0 && other < steps.size());
        TreeSet<Integer> all = new TreeSet<>();
        needsInAll(other, all);
        state(!needed || other != s && !all.contains(s));
        remember();
        return change(steps.get(s).needs, other, needed);
    }

    int pans(int kind, int count) {
        place(kind >= 0 && kind < 4);
        argument(count >= 0 && count <= 3);
        remember();
        int previous = pieces[kind];
        pieces[kind] = count;
        return previous;
    }

    int set(int what, int v) {
        argument(what >= 0 && what < 5);
        argument(new int[] {1, 0, 0, 1, 0}[what] <= v && v <= new int[] {15, 2, 20, 3, 3}[what]);
        remember();
        int previous = settings[what];
        settings[what] = v;
        return previous;
    }

    int undo() {
        state(!remembered.isEmpty());
        take(remembered.removeLast());
        return remembered.size();
    }

    // ---- what would be

    int ifPan(int kind, int what) {
        place(kind >= 0 && kind < 4);
        argument(what == 0 || what == 1);
        PlainCards other = copy();
        other.pieces[kind]++;
        return what == 0 ? other.whole() : other.stuck();
    }

    int ifServed(int servings, int what) {
        argument(servings >= 1 && servings <= 24 && (what == 0 || what == 1));
        PlainCards other = copy();
        other.wanted = servings;
        int off = 0;
        for (int i = 0; i < amounts.size(); i++) off += Math.abs(other.rounded(i) - other.scaled(i));
        return what == 0 ? other.allSpoons() : off;
    }

    int slack(int s) {
        place(s >= 0 && s < steps.size());
        if (stepOf(s, 7) == -1) return -1;
        int greatest = 0;
        for (boolean good = true; good && greatest < 60; ) {
            PlainCards other = copy();
            other.steps.get(s).minutes += greatest + 1;
            good = other.whole() <= whole();
            if (good) greatest++;
        }
        return greatest;
    }

    int bestRule() {
        int best = 0;
        long least = Long.MAX_VALUE;
        for (int rule = 0; rule < 4; rule++) {
            PlainCards other = copy();
            other.settings[4] = rule;
            long value = 10000L * other.stuck() + other.whole();
            if (value < least) {
                least = value;
                best = rule;
            }
        }
        return best;
    }

    int bestServings(int least, int most) {
        argument(least >= 1 && least <= 24 && most >= least && most <= 24);
        int best = most;
        for (int servings = most; servings >= least; servings--) {
            if (ifServed(servings, 1) <= ifServed(best, 1)) best = servings;
        }
        return best;
    }

    // ---- scripts, simulations

    int runScript(int n, long script) {
        argument(n >= 1 && n <= 3);
        argument(script >= 0 && String.valueOf(script).length() <= 6 * n);
        String digits = String.format("%0" + 6 * n + "d", script);
        PlainCards other = copy();
        for (int command = 0; command < n; command++) {
            boolean good;
            try {
                good = other.command(digits.substring(6 * command, 6 * command + 6));
            } catch (RuntimeException refused) {
                good = false;
            }
            if (!good) return command;
        }
        return -1;
    }

    private boolean command(String group) {
        int a = Integer.parseInt(group.substring(1, 3));
        int b = Integer.parseInt(group.substring(3, 5));
        int end = Integer.parseInt(group.substring(3));
        if (group.matches("1....0")) servings(a, b);
        else if (group.matches("2....0")) minutes(a, b);
        else if (group.matches("3....[01]")) need(a, b, group.endsWith("1"));
        else if (group.matches("4..000")) pans(a / 10, a % 10);
        else if (group.matches("5.00..")) set(a / 10, end);
        else if (group.matches("6....0")) return stepOf(a, 7) != -1 && stepOf(a, 7) <= b;
        else if (group.matches("700...")) return whole() <= end;
        else if (group.matches("8..0..")) return ingredientOf(a, 3) <= end;
        else return group.matches("90000.") && stuck() <= end;
        return true;
    }

    int simulate(long seed, int m) {
        argument(m >= 1 && m <= 60);
        PlainCards other = copy();
        long x = seed;
        for (int turn = 0; turn < m; turn++) {
            x = x * 6364136223846793005L + 1442695040888963407L;
            int r = (int) (x >>> 33);
            try {
                other.turn(r % 8, r / 8);
            } catch (RuntimeException leftOut) {
                continue;
            }
        }
        return 1000 * other.whole() + 10 * other.stuck() + other.allSpoons() % 10;
    }

    private int turn(int which, int q) {
        switch (which) {
            case 0: return ingredient(1 + q % 5000);
            case 1: case 2: return step(1 + q % 40, q / 64 % 5 - 1, q / 512 % 2 == 1);
            case 3: return use(q % 14, q / 16 % 12, q / 256 % 4 != 0);
            case 4: case 5: return need(q % 14, q / 16 % 14, q / 256 % 4 != 0);
            case 6: return q / 64 % 2 == 0 ? pans(q % 4, q / 4 % 4) : servings(1 + q % 24, 1 + q / 128 % 24);
            default: return set(q % 5, q / 8 % 16);
        }
    }

    // ---- save slots

    int save(int slot) {
        place(slot == 0 || slot == 1);
        slots[slot] = copy();
        return steps.size();
    }

    int restore(int slot) {
        place(slot == 0 || slot == 1);
        state(slots[slot] != null);
        take(slots[slot]);
        remembered.clear();
        return steps.size();
    }
}
