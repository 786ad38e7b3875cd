/** Objects and numbers that many tests begin with. */
final class Make {
    private Make() {
    }

    static Counted names(int count, int many) {
        Counted x = new Counted();
        for (int i = 0; i < count; i++) {
            x.name(many, -1, 0);
        }
        return x;
    }

    /** One NAME of 30 VALUES: POINT p has VALUE p, and VALUES are as far apart as POINTS. */
    static Counted line() {
        return names(1, 30);
    }

    /** The line with TRIALS at POINTS 0, 1, .. (modulo 30). */
    static Counted trials(int count) {
        Counted x = line();
        for (int i = 0; i < count; i++) {
            x.trial(0, i);
        }
        return x;
    }

    /** Five bits for each VALUE, NAME 0 the lowest. */
    static long word(int... values) {
        long w = 0;
        for (int i = 0; i < values.length; i++) {
            w |= (long) values[i] << (5 * i);
        }
        return w;
    }

    /** Which of the first TRIALS are IN THE BRACKET, as a row of 1 and 0. */
    static String in(Counted x, int count) {
        StringBuilder text = new StringBuilder();
        for (int t = 0; t < count; t++) {
            text.append(x.told(t, 4));
        }
        return text.toString();
    }
}
