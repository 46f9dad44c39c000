/** Counts answers that are not as due, and helps to bring texts onto a tape. */
final class Check {
    static final long NONE = -1;
    static final long NO_BEST = Long.MIN_VALUE;

    private static int wrong = 0;
    private static int asked = 0;

    private Check() {
    }

    static void due(String call, long got, long want) {
        asked++;
        if (got != want) {
            wrong++;
            System.out.println(call + " answered " + got + ", due is " + want);
        }
    }

    static void due(String call, boolean got, boolean want) {
        due(call, got ? 1 : 0, want ? 1 : 0);
    }

    static void end() {
        System.out.println(asked + " answers, " + wrong + " not as due");
        if (wrong != 0) {
            System.exit(1);
        }
    }

    /** Feeds a text, filled up with bytes 0, and answers what customs() says of just the text. */
    static int customs(StoneHall hall, String text) {
        feed(hall, text);
        return hall.customs(text.length());
    }

    /** Feeds a text, filled up with bytes 0 to a number of bytes that twenty divides: what the last feed() says. */
    static int feed(StoneHall hall, String text) {
        int size = 0;
        for (int at = 0; at < text.length(); at += 20) {
            size = hall.feed(four(text, at), four(text, at + 4), four(text, at + 8), four(text, at + 12), four(text, at + 16));
        }
        return size;
    }

    private static int four(String text, int at) {
        int number = 0;
        for (int i = at; i < at + 4; i++) {
            number = (number << 8) | (i < text.length() ? text.charAt(i) & 255 : 0);
        }
        return number;
    }

    /** What look() answers; -101 for IndexOutOfBoundsException, -102 for NoSuchElementException. */
    static int look(StoneHall hall, int boulder, int what) {
        try {
            return hall.look(boulder, what);
        } catch (IndexOutOfBoundsException e) {
            return e.getClass() == IndexOutOfBoundsException.class ? -101 : -103;
        } catch (java.util.NoSuchElementException e) {
            return e.getClass() == java.util.NoSuchElementException.class ? -102 : -103;
        }
    }
}
