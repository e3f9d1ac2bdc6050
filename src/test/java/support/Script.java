/** Feeds texts to objects. */
final class Script {
    private Script() {
    }

    /** Feeds a text, filled up with blanks; how many bytes the last feed answered (0 for an empty one). */
    static int feed(CornerMaps x, String text) {
        int fed = 0;
        for (int at = 0; at < text.length(); at += 20) {
            fed = x.feed(four(text, at), four(text, at + 4), four(text, at + 8), four(text, at + 12),
                four(text, at + 16));
        }
        return fed;
    }

    private static int four(String text, int at) {
        int value = 0;
        for (int i = at; i < at + 4; i++) {
            value = (value << 8) | (i < text.length() ? text.charAt(i) & 255 : ' ');
        }
        return value;
    }

    static int read(CornerMaps x, String text) {
        feed(x, text);
        return x.text(text.length());
    }

    static CornerMaps of(String text) {
        CornerMaps x = new CornerMaps();
        int lines = read(x, text);
        if (lines < 0) {
            throw new IllegalArgumentException("fault " + x.fault(0) + " at " + x.fault(1) + ": " + text);
        }
        return x;
    }
}
