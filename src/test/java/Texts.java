/** Objects that were told a text. */
final class Texts {
    private Texts() {
    }

    static void write(AsWithTheLast x, String text) {
        x.wipe();
        for (char letter : text.toCharArray()) {
            x.write(letter);
        }
    }

    static AsWithTheLast laid(String text) {
        AsWithTheLast x = new AsWithTheLast();
        write(x, text);
        if (x.lay() < 1) {
            throw new IllegalStateException("no text to lay: " + text);
        }
        return x;
    }

    static String times(int n, String text) {
        return text.repeat(n);
    }
}
