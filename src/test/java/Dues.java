/** Counts the answers that are not due, and makes objects from a text. */
final class Dues {
    static final int NONE = -1;
    static final int UNKNOWN = -1000000001;
    static final int OUTSIDE = -1000000002;
    static final int NOT = -1000000003;
    static final int FULL = -1000000004;

    private int wrong;

    void due(String call, long got, long want) {
        if (got != want) {
            wrong++;
            if (wrong <= 40) {
                System.out.println(call + " answered " + got + ", due is " + want);
            }
        }
    }

    boolean isAsDue() {
        return wrong == 0;
    }

    /** Ends the program with exit code 1 if an answer was not due. */
    void end() {
        if (wrong > 0) {
            System.out.println(wrong + " answers are not as due");
            System.exit(1);
        }
    }

    static void feedAll(BoxedHeirs x, String text) {
        for (int i = 0; i < text.length(); i++) {
            x.feed(text.charAt(i));
        }
    }

    static BoxedHeirs duchyOf(String text) {
        BoxedHeirs x = new BoxedHeirs();
        feedAll(x, text);
        x.duchy();
        return x;
    }
}
