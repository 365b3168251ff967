/** Objects to test on. */
final class Halls {
    private Halls() { }

    static void tell(SnowSuits x, String text) {
        for (int i = 0; i < text.length(); i++) {
            x.write(text.charAt(i));
        }
    }

    /** A new object with this text laid; the text must be one that can be. */
    static SnowSuits of(String text) {
        SnowSuits x = new SnowSuits();
        tell(x, text);
        if (x.lay() <= 0) {
            throw new IllegalStateException("the test's own text is not laid: " + text);
        }
        return x;
    }

    /** Woman w dresses all these children, one behind the other, each as long as it takes. */
    static void dress(SnowSuits x, int w, int... children) {
        for (int c : children) {
            x.pass(x.take(w, c));
        }
    }
}
