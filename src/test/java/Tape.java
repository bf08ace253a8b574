/** Brings texts on the tape of an object. */
final class Tape {
    private Tape() {
    }

    /** Feeds all characters, eight at a time; answers what the last feed answered. */
    static int feed(EveryMapWrong x, String text) {
        int answer = 0;
        for (int from = 0; from < text.length(); from += 8) {
            int to = Math.min(text.length(), from + 8);
            long w = 0;
            for (int i = from; i < to; i++) {
                w = w << 8 | text.charAt(i) & 255;
            }
            answer = x.feed(w, to - from);
        }
        return answer;
    }

    static int read(EveryMapWrong x, String text) {
        feed(x, text);
        return x.text();
    }

    /** Makes a text THE LAW of an object. */
    static void law(EveryMapWrong x, String text) {
        int t = read(x, text);
        if (t < 0 || x.force(t) < 0) {
            throw new IllegalStateException(text + " is no law: " + t);
        }
    }
}
