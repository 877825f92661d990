/** Promises 29 and 30: scripts and simulations. */
final class ScriptTest {
    private static final Due DUE = new Due("ScriptTest");

    /** 0 begins at 0 and ends at 10, 1 begins at 12 and ends at 32, 2 needs 1, 3 is stuck; spoons: 1, 5. */
    private static final String TEXT = "Ci01pi02+1/2ts1001s2001s0540s0631n0201k30";

    public static void main(String[] args) {
        commands();
        questions();
        otherGroups();
        order();
        presentState();
        wrongScripts();
        scriptsChangeNothing();
        simulateWrong();
        simulateTurns();
        simulateFullCard();
        simulateOneTurn();
        simulateChangesNothing();
        DUE.end();
    }

    private static void script(int n, long script, int want) {
        SpoonCards x = Cards.of(TEXT);
        DUE.answer("runScript(" + n + ", " + script + ")", want, () -> x.runScript(n, script));
    }

    private static void good(long script) {
        script(1, script, -1);
    }

    private static void bad(long script) {
        script(1, script, 0);
    }

    /** The commands 1 to 5. */
    private static void commands() {
        good(101010);
        good(124240);
        bad(100010);
        bad(101000);
        bad(125010);
        bad(101250);
        bad(101011);
        good(200010);
        good(203900);
        bad(204010);
        bad(200000);
        bad(200910);
        bad(200011);
        good(302001);
        good(302011);
        good(302010);
        good(300000);
        bad(300001);
        bad(301021);
        bad(302012);
        bad(302009);
        bad(304000);
        bad(300040);
        good(400000);
        good(433000);
        bad(440000);
        bad(404000);
        bad(400001);
        bad(400010);
        bad(400100);
        good(500015);
        bad(500016);
        bad(500000);
        good(510002);
        bad(510003);
        good(520020);
        bad(520021);
        good(530003);
        bad(530000);
        good(540003);
        bad(540004);
        bad(550001);
        bad(501001);
        bad(500101);
    }

    /** The commands 6 to 9. */
    private static void questions() {
        good(600000);
        good(601120);
        bad(601110);
        good(602320);
        bad(602310);
        bad(603990);
        bad(604990);
        bad(614990);
        bad(600001);
        good(700037);
        bad(700036);
        good(700999);
        bad(710999);
        bad(701999);
        good(800001);
        bad(800000);
        good(801006);
        good(801099);
        bad(801005);
        bad(802099);
        bad(800101);
        good(900001);
        bad(900000);
        good(900009);
        bad(900011);
        bad(900101);
        bad(901001);
        bad(910001);
    }

    private static void otherGroups() {
        bad(0);
        bad(1);
        bad(99999);
        bad(12340);
        script(2, 900009, 0);
        script(3, 900009900009L, 0);
    }

    /** Later commands see what earlier ones did; the first one that fails is told. */
    private static void order() {
        script(2, 900009900009L, -1);
        script(2, 900009900000L, 1);
        script(3, 900009900009900009L, -1);
        script(3, 900009900009900000L, 2);
        script(3, 900009900000900000L, 1);
        script(3, 900000900009900009L, 0);
        script(2, 431000900000L, -1);
        script(2, 520000700035L, -1);
        script(2, 520000700034L, 1);
        script(2, 200010602230L, -1);
        script(2, 200010602220L, 1);
        // for 24 of 4 the 120 grains are 720: 5 tablespoons; for 4 of 24 they are 20: 3 pinches
        script(2, 104240801005L, -1);
        script(2, 104240801004L, 1);
        script(2, 124040801003L, -1);
        script(2, 124040801002L, 1);
        script(2, 302010602000L, -1);
        script(3, 302010301021302011L, 2);
        script(3, 431000301031601160L, -1);
        script(3, 431000301031601150L, 2);
        script(2, 500001801020L, -1);
        script(2, 500001801019L, 1);
        script(2, 540001600000L, 1);
        script(3, 530003540001601000L, -1);
    }

    /** What a script or a simulation starts from is what actions have made. */
    private static void presentState() {
        SpoonCards x = new SpoonCards();
        x.ingredient(7);
        x.step(8, -1, true);
        DUE.answer("the whole in a script", -1, () -> x.runScript(2, 700008800002L));
        x.minutes(0, 9);
        DUE.answer("the whole in a script behind an action", 0, () -> x.runScript(1, 700008));
        x.undo();
        DUE.answer("the whole in a script behind undo()", -1, () -> x.runScript(1, 700008));
    }

    private static void wrongScripts() {
        SpoonCards x = Cards.of(TEXT);
        DUE.badArgument("runScript(0, 0)", x, () -> x.runScript(0, 0));
        DUE.badArgument("runScript(4, 0)", x, () -> x.runScript(4, 0));
        DUE.badArgument("runScript(-1, 0)", x, () -> x.runScript(Integer.MIN_VALUE, 0));
        DUE.badArgument("runScript(1, -1)", x, () -> x.runScript(1, -1));
        DUE.badArgument("runScript(3, least)", x, () -> x.runScript(3, Long.MIN_VALUE));
        DUE.badArgument("runScript(1, 1000000)", x, () -> x.runScript(1, 1000000L));
        DUE.badArgument("runScript(2, 10^12)", x, () -> x.runScript(2, 1000000000000L));
        DUE.badArgument("runScript(3, 10^18)", x, () -> x.runScript(3, 1000000000000000000L));
        DUE.badArgument("runScript(3, most)", x, () -> x.runScript(3, Long.MAX_VALUE));
        DUE.answer("runScript(1, 999999)", 0, () -> x.runScript(1, 999999L));
        DUE.answer("runScript(2, 10^12 - 1)", 0, () -> x.runScript(2, 999999999999L));
        DUE.answer("runScript(3, 10^18 - 1)", 0, () -> x.runScript(3, 999999999999999999L));
    }

    private static void scriptsChangeNothing() {
        SpoonCards x = Cards.of(TEXT);
        x.set(4, 2);
        x.save(0);
        String before = Look.at(x);
        long[] scripts = {101090203330302010L, 431000530003540001L, 433000500001520020L, 101090203330000000L};
        for (long script : scripts) {
            x.runScript(3, script);
            DUE.text("runScript(3, " + script + ") changes nothing", before, Look.at(x));
        }
        x.simulate(7, 60);
        DUE.text("simulate(7, 60) changes nothing", before, Look.at(x));
        DUE.answer("undo() behind scripts", 0, () -> x.undo());
        DUE.answer("restore() behind scripts", 4, () -> x.restore(0));
        DUE.text("restore() behind scripts changes nothing", before, Look.at(x));
    }

    private static void simulateWrong() {
        SpoonCards x = Cards.of(TEXT);
        DUE.badArgument("simulate(1, 0)", x, () -> x.simulate(1, 0));
        DUE.badArgument("simulate(1, 61)", x, () -> x.simulate(1, 61));
        DUE.badArgument("simulate(1, -1)", x, () -> x.simulate(1, -1));
    }

    /** The same turns by calls on another object. */
    private static void simulateTurns() {
        long[] seeds = {0, 1, -1, 99, Long.MIN_VALUE, Long.MAX_VALUE, 1234567890123456789L};
        for (long seed : seeds) {
            simulated("C", seed);
            simulated(TEXT, seed);
        }
        for (long seed = 1000; seed < 1040; seed++) {
            simulated(TEXT, seed * 0x9E3779B97F4A7C15L);
        }
    }

    /** What is above 12 ingredients or 14 steps is left out. */
    private static void simulateFullCard() {
        for (long seed = 0; seed < 20; seed++) {
            simulated("C" + "i01p".repeat(12) + "s0140".repeat(14), seed);
        }
    }

    /** The seed from which the first turn has this r, which is not negative. */
    private static long seedOf(int r) {
        long inverse = 1;
        for (int round = 0; round < 6; round++) {
            inverse *= 2 - 6364136223846793005L * inverse;
        }
        return (((long) r << 33) - 1442695040888963407L) * inverse;
    }

    /** One turn with the least and the greatest q, and with those where the numbers made of q begin anew. */
    private static void simulateOneTurn() {
        int most = Integer.MAX_VALUE / 8;
        for (int which = 0; which < 8; which++) {
            for (int q = 0; q <= 2100; q++) {
                oneTurn(which, q);
                oneTurn(which, most - q);
            }
            for (int q : new int[] {4998, 4999, 5000, 5001, 9999, 10000}) {
                oneTurn(which, q);
            }
        }
    }

    /** 256 turns of each kind, made or left out, one by one. */
    private static void simulateChangesNothing() {
        for (int which = 0; which < 8; which++) {
            SpoonCards x = used();
            for (int q = 0; q < 128; q++) {
                x.simulate(seedOf(8 * q + which), 1);
                x.simulate(seedOf(8 * (256 + q) + which), 1);
            }
            DUE.text("simulate changes nothing, r % 8 is " + which, Look.wholly(used()), Look.wholly(x));
        }
    }

    private static SpoonCards turned() {
        SpoonCards x = new SpoonCards();
        x.set(0, 1);
        x.ingredient(50);
        x.step(30, SpoonCards.NONE, true);
        x.step(9, 2, false);
        x.pans(3, 0);
        return x;
    }

    private static SpoonCards used() {
        SpoonCards x = turned();
        x.use(0, 0, true);
        x.need(1, 0, true);
        return x;
    }

    private static void oneTurn(int which, int q) {
        SpoonCards x = turned();
        long seed = seedOf(8 * q + which);
        int got = x.simulate(seed, 1);
        Due.outcome(() -> turn(x, which, q));
        int want = 1000 * x.about(5) + 10 * x.about(6) + x.about(4) % 10;
        DUE.answer("simulate by one turn, r % 8 is " + which + " and q is " + q, want, () -> got);
    }

    private static void simulated(String text, long seed) {
        SpoonCards x = Cards.of(text);
        SpoonCards y = Cards.of(text);
        long next = seed;
        for (int m = 1; m <= 60; m++) {
            next = next * 6364136223846793005L + 1442695040888963407L;
            int r = (int) (next >>> 33);
            int q = r / 8;
            Due.outcome(() -> turn(y, r % 8, q));
            int want = 1000 * y.about(5) + 10 * y.about(6) + y.about(4) % 10;
            int turns = m;
            DUE.answer("simulate(" + seed + ", " + m + ")", want, () -> x.simulate(seed, turns));
        }
    }

    private static int turn(SpoonCards y, int which, int q) {
        boolean on = q / 256 % 4 != 0;
        switch (which) {
            case 0: return y.ingredient(1 + q % 5000);
            case 1: case 2: return y.step(1 + q % 40, q / 64 % 5 - 1, q / 512 % 2 == 1);
            case 3: return y.use(q % 14, q / 16 % 12, on);
            case 4: case 5: return y.need(q % 14, q / 16 % 14, on);
            case 6: return q / 64 % 2 == 0 ? y.pans(q % 4, q / 4 % 4) : y.servings(1 + q % 24, 1 + q / 128 % 24);
            default: return y.set(q % 5, q / 8 % 16);
        }
    }
}
