import java.util.Random;

/** Random cards as texts and random scripts: mostly right ones, some with a fault. */
final class RandomText {
    private RandomText() {
    }

    static String card(Random random) {
        StringBuilder text = new StringBuilder("C");
        int commands = random.nextInt(26);
        for (int k = 0; k < commands; k++) {
            text.append(command(random));
        }
        if (random.nextInt(3) == 0) {
            spoil(text, random);
        }
        return text.toString();
    }

    private static void spoil(StringBuilder text, Random random) {
        int at = random.nextInt(text.length());
        int how = random.nextInt(4);
        if (how == 0) {
            text.setLength(at);
        } else if (how == 1) {
            text.deleteCharAt(at);
        } else {
            text.setCharAt(at, how == 2 ? (char) random.nextInt(256) : "0123456789+/ptTcisunkvrC".charAt(random.nextInt(24)));
        }
    }

    private static String command(Random random) {
        int step = random.nextInt(random.nextInt(4) == 0 ? 14 : 5);
        int other = random.nextInt(random.nextInt(4) == 0 ? 12 : 5);
        switch (random.nextInt(9)) {
            case 0: case 1: return ingredient(random);
            case 2: case 3:
                return two('s', 1 + random.nextInt(90)) + random.nextInt(5) + random.nextInt(2);
            case 4: return two('u', step) + two(' ', other).trim();
            case 5: return two('n', step) + two(' ', other).trim();
            case 6: return "k" + random.nextInt(4) + random.nextInt(4);
            case 7: return two('v', 1 + random.nextInt(24));
            default: return "r" + random.nextInt(4);
        }
    }

    private static String ingredient(Random random) {
        String number = two('i', random.nextInt(random.nextBoolean() ? 100 : 3));
        int below = 2 + random.nextInt(7);
        String fraction = random.nextBoolean() ? "" : "+" + (1 + random.nextInt(below - 1)) + "/" + below;
        return number + fraction + "ptTc".charAt(random.nextInt(4));
    }

    private static String two(char letter, int number) {
        return "" + letter + number / 10 + number % 10;
    }

    /** A script of about n commands. */
    static long script(Random random, int n) {
        long script = 0;
        for (int k = 0; k < Math.min(Math.max(n, 1), 3); k++) {
            script = script * 1000000 + group(random);
        }
        return random.nextInt(30) == 0 ? script * 10 : script;
    }

    private static int group(Random random) {
        int step = random.nextInt(random.nextInt(4) == 0 ? 14 : 5);
        int other = random.nextInt(random.nextInt(4) == 0 ? 14 : 5);
        int spoiled = random.nextInt(12) == 0 ? random.nextInt(1000) : 0;
        switch (random.nextInt(10)) {
            case 1: return 100000 + (1 + random.nextInt(24)) * 1000 + random.nextInt(25) * 10 + spoiled;
            case 2: return 200000 + step * 1000 + random.nextInt(92) * 10 + spoiled;
            case 3: return 300000 + step * 1000 + other * 10 + random.nextInt(2) + spoiled;
            case 4: return 400000 + random.nextInt(5) * 10000 + random.nextInt(5) * 1000 + spoiled;
            case 5: return 500000 + random.nextInt(6) * 10000 + random.nextInt(22) + spoiled;
            case 6: return 600000 + step * 1000 + random.nextInt(100) * 10 + spoiled;
            case 7: return 700000 + random.nextInt(300) + spoiled;
            case 8: return 800000 + other * 1000 + random.nextInt(100) + spoiled;
            case 9: return 900000 + random.nextInt(10) + spoiled;
            default: return random.nextInt(1000000);
        }
    }
}
