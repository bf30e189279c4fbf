import java.util.function.Supplier;
import java.util.function.ToIntFunction;

/** Objects that are made alike: one gets a call that has to be refused, and both have to look alike ever after. */
final class Twins {
    private Twins() {
    }

    /** The call answers its refusal, and the object is then as one on which it was never called. */
    static void refused(Dues dues, String call, Supplier<BoxedHeirs> made, ToIntFunction<BoxedHeirs> calls, int refusal) {
        BoxedHeirs asked = made.get();
        dues.due(call, calls.applyAsInt(asked), refusal);
        String look = lookThrough(asked);
        String due = lookThrough(made.get());
        dues.due(call + " leaves all as it was", look.equals(due) ? 1 : 0, 1);
    }

    /** All that can be asked of what is so now. */
    static String lookOf(BoxedHeirs x) {
        StringBuilder look = new StringBuilder();
        for (int what = 0; what <= 14; what++) {
            look.append(x.told(what)).append(' ');
        }
        for (int b = 0; b < x.told(1); b++) {
            for (int what = 4; what <= 8; what++) {
                look.append(x.box(b, what)).append(' ');
            }
        }
        for (int r = 0; r < x.told(2); r++) {
            look.append(x.regent(r, 1)).append(' ');
        }
        int seed = x.seed(0);
        x.seed(seed);
        look.append(seed).append(' ').append(x.fault()).append(' ').append(x.judge()).append(' ');
        return look.append(x.catches(5)).append(' ').append(x.catches(30)).append('\n').toString();
    }

    /** All that is so, that can be undone, that images keep, that is seen and written, and the text; it uses the object up. */
    static String lookThrough(BoxedHeirs x) {
        StringBuilder look = new StringBuilder(lookOf(x));
        for (int b = 0; b < x.told(1); b++) {
            for (int what = 0; what <= 12; what++) {
                look.append(x.box(b, what)).append(' ');
            }
        }
        for (int i = 0; i < 16 && x.told(13) > 0; i++) {
            look.append(x.undo()).append(' ').append(lookOf(x));
        }
        for (int i = 0; i < 2; i++) {
            look.append(x.goBack(i)).append(' ').append(lookOf(x));
        }
        look.append(x.tear()).append(' ').append(x.duchy()).append(' ').append(x.fault()).append(' ');
        return look.append(lookOf(x)).toString();
    }
}
