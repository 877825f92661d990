/** Makes objects that hold what a text tells, and fills their text buffers. */
final class Cards {
    private Cards() {
    }

    static SpoonCards of(String text) {
        SpoonCards x = new SpoonCards();
        write(x, text);
        x.load();
        return x;
    }

    /** Replaces the text of x. */
    static void write(SpoonCards x, String text) {
        x.clearText();
        for (char c : text.toCharArray()) {
            x.append(c);
        }
    }
}
