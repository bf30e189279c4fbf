/** Counts the answers that are not due, and makes objects from a text. */
final class Dues {
    static final int NONE = -1;
    static final int UNKNOWN = -1000000001;
    static final int OUTSIDE = -1000000002;
    static final int NOT = -1000000003;
    static final int FULL = -1000000004;

    private String sentence = "";
    private int wrong;

    /** The document's sentence that the answers from here on are asked for; it is told with each that is not due. */
    void sentence(String words) {
        sentence = "\"" + words + "\": ";
    }

    void due(String call, long got, long want) {
        if (got != want) {
            wrong++;
            if (wrong <= 40) {
                System.out.println(sentence + call + " answered " + got + ", due is " + want);
            }
        }
    }

    boolean isAsDue() {
        return wrong == 0;
    }

    /** Ends the program with exit code 1 if an answer was not due. */
    void end() {
        if (wrong > 0) {
            System.out.println(wrong + " answers are not as due");
            System.exit(1);
        }
    }

    static void feedAll(BoxedHeirs x, String text) {
        for (int i = 0; i < text.length(); i++) {
            x.feed(text.charAt(i));
        }
    }

    static BoxedHeirs duchyOf(String text) {
        BoxedHeirs x = new BoxedHeirs();
        feedAll(x, text);
        x.duchy();
        return x;
    }

    /** Winds a box up to a bar of its tune, from wherever it is. */
    static void windTo(BoxedHeirs x, int b, int bar) {
        int bars = x.box(b, 0);
        int way = Math.floorMod(bar - x.box(b, 4), bars);
        if (way > 0) {
            x.wind(b, way);
        }
    }
}
