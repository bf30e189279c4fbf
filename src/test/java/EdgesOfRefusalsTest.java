import java.util.function.IntUnaryOperator;
import java.util.function.Supplier;
import java.util.function.ToIntFunction;

/** The edges that the document's "Terms" name ahead of its sections: refusals, their order, that they change nothing. */
public final class EdgesOfRefusalsTest {
    private static final int[] FAR = {Integer.MIN_VALUE, -1000000001, -8, 7, 8, 31, 32, 63, 64, Integer.MAX_VALUE};
    private static final Dues DUES = new Dues();

    public static void main(String[] args) {
        usedForManyCalls();
        numbersFromNothing();
        setsByBits();
        noneAndRefusals();
        unknownBoxes();
        unknownRegents();
        unknownImages();
        unknownBits();
        oneTwice();
        outsideOfBounds();
        unknownAheadOfOutside();
        unknownAheadOfNotAndFull();
        outsideAheadOfNot();
        outsideAheadOfFull();
        refusedForUnknownChangesNothing();
        refusedForOutsideChangesNothing();
        refusedForNotChangesNothing();
        refusedForFullChangesNothing();
        DUES.end();
    }

    private static void due(String call, long got, long want) {
        DUES.due(call, got, want);
    }

    private static void usedForManyCalls() {
        DUES.sentence("An object is used for at most 512 calls after it has been made");
        BoxedHeirs x = new BoxedHeirs();
        String text = "d1;b60 59 20 1;";
        Dues.feedAll(x, text);
        due("the text's duchy()", x.duchy(), 1);
        int calls = text.length() + 1;
        int winds = 512 - calls - 2;
        for (int i = 1; i <= winds; i++) {
            due("wind(0, 1), time " + i, x.wind(0, 1), i % 60);
        }
        due("call 511, undo()", x.undo(), 15);
        due("call 512, box(0, 4)", x.box(0, 4), (winds - 1) % 60);
    }

    private static void numbersFromNothing() {
        DUES.sentence("What has a number has it from 0 on, as it comes");
        BoxedHeirs x = Dues.duchyOf("d1;b10 0 1 0;r7;b11 0 1 0;r8;b12 0 1 0;r9;");
        for (int i = 0; i < 3; i++) {
            due("box " + i, x.box(i, 0), 10 + i);
            due("regent " + i, x.regent(i, 0), 7 + i);
        }
    }

    private static void setsByBits() {
        DUES.sentence("A SET is a whole number, bit k for k");
        BoxedHeirs x = Dues.duchyOf("d9;b2 1 9 3;b2 1 9 3;b2 1 9 3;b2 1 9 3;b2 1 9 3;b2 1 9 3;b2 1 9 3;");
        due("nobody is up", x.told(5), 0);
        x.bar(1);
        due("all seven are up", x.told(5), 127);
        for (int b = 0; b < 7; b++) {
            x.damp(b, true);
            due("damp up to " + b, x.told(8), (2 << b) - 1);
        }
        x.push(0);
        due("all but the first are up", x.told(5), 126);
        x.push(6);
        due("all but the first and the last are up", x.told(5), 62);
    }

    private static void noneAndRefusals() {
        DUES.sentence("NONE is -1. They are far below all that is counted: -1000000001 and on");
        due("NONE", BoxedHeirs.NONE, -1);
        due("UNKNOWN", BoxedHeirs.UNKNOWN, -1000000001);
        due("OUTSIDE", BoxedHeirs.OUTSIDE, -1000000002);
        due("NOT", BoxedHeirs.NOT, -1000000003);
        due("FULL", BoxedHeirs.FULL, -1000000004);
    }

    private static BoxedHeirs twoAndTwo() {
        return Dues.duchyOf("d9;b5 1 9 3;b7 1 9 3;r3;r4;");
    }

    /** Below, just behind the last, far off: refused; the first and the last are not. */
    private static void unknownBut(String call, int least, int count, IntUnaryOperator calls) {
        due(call + " of " + (least - 1), calls.applyAsInt(least - 1), Dues.UNKNOWN);
        due(call + " of " + count, calls.applyAsInt(count), Dues.UNKNOWN);
        for (int far : FAR) {
            due(call + " of " + far, calls.applyAsInt(far), Dues.UNKNOWN);
        }
        due(call + " of the first is known", calls.applyAsInt(0) == Dues.UNKNOWN ? 1 : 0, 0);
        due(call + " of the last is known", calls.applyAsInt(count - 1) == Dues.UNKNOWN ? 1 : 0, 0);
    }

    private static void unknownBoxes() {
        DUES.sentence("UNKNOWN (a BOX that there is not)");
        BoxedHeirs x = twoAndTwo();
        unknownBut("box", 0, 2, b -> x.box(b, 0));
        unknownBut("wind", 0, 2, b -> x.wind(b, 1));
        unknownBut("sit", 0, 2, b -> x.sit(0, b));
        unknownBut("push", 0, 2, b -> x.push(b));
        unknownBut("oil", 0, 2, b -> x.oil(b));
        unknownBut("damp", 0, 2, b -> x.damp(b, true));
        unknownBut("comes", 0, 2, b -> x.comes(b));
        unknownBut("both, the first", 0, 2, b -> x.both(b, b == 0 ? 1 : 0));
        unknownBut("both, the other", 0, 2, b -> x.both(b == 0 ? 1 : 0, b));
        unknownBut("ahead, the first", 0, 2, b -> x.ahead(b, b == 0 ? 1 : 0));
        unknownBut("ahead, the other", 0, 2, b -> x.ahead(b == 0 ? 1 : 0, b));
        unknownBut("hold", Dues.NONE, 2, b -> x.hold(b));
        unknownBut("lasts", 0, 2, b -> x.lasts(b));
        unknownBut("write", 0, 2, b -> x.write(b, 0));
        BoxedHeirs none = Dues.duchyOf("d9;r3;");
        due("box(0, 0) of a duchy without boxes", none.box(0, 0), Dues.UNKNOWN);
        due("sit(0, 0) in a duchy without boxes", none.sit(0, 0), Dues.UNKNOWN);
    }

    private static void unknownRegents() {
        DUES.sentence("UNKNOWN (a REGENT that there is not)");
        BoxedHeirs x = twoAndTwo();
        unknownBut("regent", 0, 2, r -> x.regent(r, 0));
        unknownBut("sit", 0, 2, r -> x.sit(r, 1));
        unknownBut("rise", 0, 2, r -> x.rise(r));
        BoxedHeirs none = Dues.duchyOf("d9;b5 1 9 3;");
        due("regent(0, 0) of a duchy without regents", none.regent(0, 0), Dues.UNKNOWN);
        due("sit(0, 0) in a duchy without regents", none.sit(0, 0), Dues.UNKNOWN);
        due("rise(0) in a duchy without regents", none.rise(0), Dues.UNKNOWN);
    }

    private static void unknownImages() {
        DUES.sentence("UNKNOWN (an IMAGE that there is not)");
        BoxedHeirs x = twoAndTwo();
        unknownBut("keep", 0, 2, i -> x.keep(i));
        unknownBut("goBack", 0, 2, i -> x.goBack(i));
    }

    private static void unknownBits() {
        DUES.sentence("UNKNOWN (bits of such)");
        BoxedHeirs x = twoAndTwo();
        due("parted(3, 0), both there: in 60 bars 5 and 7 always meet", x.parted(3, 0), Dues.NONE);
        for (int k = 2; k < 32; k++) {
            due("parted, bit " + k, x.parted(1 << k, 0), Dues.UNKNOWN);
            due("parted, with bit " + k, x.parted(3 | 1 << k, 1), Dues.UNKNOWN);
        }
        due("parted, all bits", x.parted(-1, 0), Dues.UNKNOWN);
        BoxedHeirs seven = Dues.duchyOf("d9;b5 1 9 3;b5 1 9 3;b5 1 9 3;b5 1 9 3;b5 1 9 3;b5 1 9 3;b5 1 9 3;");
        due("parted, the seventh of seven", seven.parted(65, 0), 1);
        due("parted, an eighth", seven.parted(129, 0), Dues.UNKNOWN);
        due("parted, an eighth alone", seven.parted(128, 0), Dues.UNKNOWN);
        due("parted, bits without a duchy", new BoxedHeirs().parted(3, 0), Dues.UNKNOWN);
        due("parted, no bits without a duchy", new BoxedHeirs().parted(0, 0), Dues.NOT);
    }

    private static void oneTwice() {
        DUES.sentence("UNKNOWN (one twice, where two are asked)");
        BoxedHeirs x = twoAndTwo();
        for (int b = 0; b < 2; b++) {
            due("both, twice " + b, x.both(b, b), Dues.UNKNOWN);
            due("ahead, twice " + b, x.ahead(b, b), Dues.UNKNOWN);
            due("sit, a regent and a box of one number", x.sit(b, b), Dues.NONE);
        }
    }

    private static void outsideBut(String call, int least, int most, IntUnaryOperator calls) {
        due(call + " of " + (least - 1), calls.applyAsInt(least - 1), Dues.OUTSIDE);
        due(call + " of " + (most + 1), calls.applyAsInt(most + 1), Dues.OUTSIDE);
        due(call + " of the least number", calls.applyAsInt(Integer.MIN_VALUE), Dues.OUTSIDE);
        due(call + " of the greatest number", calls.applyAsInt(Integer.MAX_VALUE), Dues.OUTSIDE);
        due(call + " of " + least + " is within", calls.applyAsInt(least) == Dues.OUTSIDE ? 1 : 0, 0);
        due(call + " of " + most + " is within", calls.applyAsInt(most) == Dues.OUTSIDE ? 1 : 0, 0);
    }

    private static void outsideOfBounds() {
        DUES.sentence("OUTSIDE (another number out of its bounds)");
        BoxedHeirs x = twoAndTwo();
        outsideBut("feed", 0, 255, n -> x.feed(n));
        outsideBut("told", 0, 14, n -> x.told(n));
        outsideBut("box, what", 0, 12, n -> x.box(1, n));
        outsideBut("regent, what", 0, 1, n -> x.regent(1, n));
        outsideBut("bar", 1, 400, n -> x.bar(n));
        outsideBut("wind, bars", 1, 60, n -> x.wind(1, n));
        outsideBut("drift", 1, 60, n -> x.drift(n));
        outsideBut("order", 1, 400, n -> x.order(n));
        outsideBut("parted, what", 0, 1, n -> x.parted(3, n));
        outsideBut("quiet, bars", 1, 400, n -> x.quiet(n, 0));
        outsideBut("quiet, what", 0, 1, n -> x.quiet(400, n));
        outsideBut("dry, winters", 0, 60, n -> x.dry(n, 50));
        outsideBut("dry, odds", 0, 100, n -> x.dry(60, n));
        outsideBut("see", 0, 29, n -> x.see(n, true));
        outsideBut("catches", 2, 30, n -> x.catches(n));
        outsideBut("tryBar", 2, 30, n -> x.tryBar(n));
        outsideBut("write, bar", 0, 59, n -> x.write(1, n));
        outsideBut("says", 1, 22222, n -> x.says(n));
        due("seed(-1)", x.seed(-1), Dues.OUTSIDE);
        due("seed of the least number", x.seed(Integer.MIN_VALUE), Dues.OUTSIDE);
    }

    private static void unknownAheadOfOutside() {
        DUES.sentence("REFUSALS, of several the first in this order: UNKNOWN, OUTSIDE");
        BoxedHeirs x = twoAndTwo();
        due("box(2, 13)", x.box(2, 13), Dues.UNKNOWN);
        due("box(-1, -1)", x.box(-1, -1), Dues.UNKNOWN);
        due("regent(2, 2)", x.regent(2, 2), Dues.UNKNOWN);
        due("regent(-1, -1)", x.regent(-1, -1), Dues.UNKNOWN);
        due("wind(2, 0)", x.wind(2, 0), Dues.UNKNOWN);
        due("wind(-1, 61)", x.wind(-1, 61), Dues.UNKNOWN);
        due("parted(4, 2)", x.parted(4, 2), Dues.UNKNOWN);
        due("parted(-1, -1)", x.parted(-1, -1), Dues.UNKNOWN);
        due("write(2, 60)", x.write(2, 60), Dues.UNKNOWN);
        due("write(-1, -1)", x.write(-1, -1), Dues.UNKNOWN);
    }

    private static void unknownAheadOfNotAndFull() {
        DUES.sentence("REFUSALS, of several the first in this order: UNKNOWN, .. NOT, FULL");
        BoxedHeirs x = twoAndTwo();
        due("parted(4, 0): a box that there is not, one alone", x.parted(4, 0), Dues.UNKNOWN);
        due("parted(127, 0): boxes that there are not, too many", x.parted(127, 0), Dues.UNKNOWN);
        due("goBack(2): no such image, not kept", x.goBack(2), Dues.UNKNOWN);
        due("rise(2): no such regent, who sits on none", x.rise(2), Dues.UNKNOWN);
        due("push(2): no such box, none is up", x.push(2), Dues.UNKNOWN);
        due("sit(2, -1): no such regent, no such box", x.sit(2, -1), Dues.UNKNOWN);
        due("sit(0, -1): where he is, on none, is no box", x.sit(0, -1), Dues.UNKNOWN);
        for (int i = 0; i < 15; i++) {
            x.write(0, 0);
        }
        due("write(2, 0) in a full book", x.write(2, 0), Dues.UNKNOWN);
        due("write(2, 60) in a full book", x.write(2, 60), Dues.UNKNOWN);
    }

    private static void outsideAheadOfNot() {
        DUES.sentence("REFUSALS, of several the first in this order: .. OUTSIDE, NOT");
        BoxedHeirs x = new BoxedHeirs();
        for (int n : new int[] {-1, 0, 401}) {
            due("bar(" + n + ") without a duchy", x.bar(n), Dues.OUTSIDE);
            due("drift(" + n + ") without a duchy", x.drift(n), Dues.OUTSIDE);
            due("quiet(" + n + ", 0) without a duchy", x.quiet(n, 0), Dues.OUTSIDE);
        }
        due("drift(61) without a duchy", x.drift(61), Dues.OUTSIDE);
        due("quiet(1, 2) without a duchy", x.quiet(1, 2), Dues.OUTSIDE);
        due("quiet(1, -1) without a duchy", x.quiet(1, -1), Dues.OUTSIDE);
        due("parted(0, 2) without a duchy", x.parted(0, 2), Dues.OUTSIDE);
        due("parted(1, -1): one alone", twoAndTwo().parted(1, -1), Dues.OUTSIDE);
    }

    private static void outsideAheadOfFull() {
        DUES.sentence("REFUSALS, of several the first in this order: .. OUTSIDE, .. FULL");
        BoxedHeirs x = fullText();
        due("feed(256) behind 240 letters", x.feed(256), Dues.OUTSIDE);
        due("feed(-1) behind 240 letters", x.feed(-1), Dues.OUTSIDE);
        BoxedHeirs y = fullBars();
        for (int n : new int[] {0, 401}) {
            due("bar(" + n + ") above 99999", y.bar(n), Dues.OUTSIDE);
        }
        for (int n : new int[] {0, 61}) {
            due("drift(" + n + ") above 99999", y.drift(n), Dues.OUTSIDE);
        }
        BoxedHeirs z = fullOfNotes();
        due("see(30, true) when 6 are seen", z.see(30, true), Dues.OUTSIDE);
        due("see(-1, true) when 6 are seen", z.see(-1, true), Dues.OUTSIDE);
        due("write(0, 60) in a full book", z.write(0, 60), Dues.OUTSIDE);
        due("write(0, -1) in a full book", z.write(0, -1), Dues.OUTSIDE);
    }

    private static BoxedHeirs fullText() {
        BoxedHeirs x = new BoxedHeirs();
        Dues.feedAll(x, "d7;r9;" + " ".repeat(234));
        return x;
    }

    private static BoxedHeirs fullBars() {
        BoxedHeirs x = Dues.duchyOf("d99;b5 1 9 3;r3;");
        for (int i = 0; i < 250; i++) {
            x.bar(400);
        }
        x.keep(1);
        x.wind(0, 1);
        return x;
    }

    private static BoxedHeirs fullOfNotes() {
        BoxedHeirs x = Dues.duchyOf("d9;b5 1 9 3;");
        for (int i = 0; i < 6; i++) {
            x.see(i, i == 2);
        }
        for (int i = 0; i < 15; i++) {
            x.write(0, 0);
        }
        return x;
    }

    /** A duchy with something of everything that a call could change. */
    private static BoxedHeirs rich() {
        BoxedHeirs x = Dues.duchyOf("d2;b3 1 9 1;b4 3 9 2;i0 1;r3;r10;");
        x.bar(5);
        x.push(1);
        x.seed(77);
        x.keep(0);
        x.sit(1, 1);
        x.damp(1, true);
        x.bar(3);
        x.see(2, true);
        x.write(0, 2);
        Dues.feedAll(x, "d8;r0");
        return x;
    }

    private static void stays(String call, Supplier<BoxedHeirs> made, ToIntFunction<BoxedHeirs> calls, int refusal) {
        Twins.refused(DUES, call, made, calls, refusal);
    }

    private static void refusedForUnknownChangesNothing() {
        DUES.sentence("What is refused changes nothing (UNKNOWN)");
        for (int far : new int[] {-1, 2, 7}) {
            int box = far;
            stays("box", EdgesOfRefusalsTest::rich, x -> x.box(box, 4), Dues.UNKNOWN);
            stays("regent", EdgesOfRefusalsTest::rich, x -> x.regent(box, 0), Dues.UNKNOWN);
            stays("wind", EdgesOfRefusalsTest::rich, x -> x.wind(box, 5), Dues.UNKNOWN);
            stays("sit, no regent", EdgesOfRefusalsTest::rich, x -> x.sit(box, 0), Dues.UNKNOWN);
            stays("sit, no box", EdgesOfRefusalsTest::rich, x -> x.sit(1, box), Dues.UNKNOWN);
            stays("rise", EdgesOfRefusalsTest::rich, x -> x.rise(box), Dues.UNKNOWN);
            stays("push", EdgesOfRefusalsTest::rich, x -> x.push(box), Dues.UNKNOWN);
            stays("oil", EdgesOfRefusalsTest::rich, x -> x.oil(box), Dues.UNKNOWN);
            stays("damp", EdgesOfRefusalsTest::rich, x -> x.damp(box, true), Dues.UNKNOWN);
            stays("write", EdgesOfRefusalsTest::rich, x -> x.write(box, 0), Dues.UNKNOWN);
            stays("keep", EdgesOfRefusalsTest::rich, x -> x.keep(box), Dues.UNKNOWN);
            stays("goBack", EdgesOfRefusalsTest::rich, x -> x.goBack(box), Dues.UNKNOWN);
            stays("comes", EdgesOfRefusalsTest::rich, x -> x.comes(box), Dues.UNKNOWN);
            stays("lasts", EdgesOfRefusalsTest::rich, x -> x.lasts(box), Dues.UNKNOWN);
        }
    }

    private static void refusedForOutsideChangesNothing() {
        DUES.sentence("What is refused changes nothing (OUTSIDE)");
        for (int far : new int[] {-1, 256, Integer.MAX_VALUE}) {
            stays("feed", EdgesOfRefusalsTest::rich, x -> x.feed(far), Dues.OUTSIDE);
            stays("wind", EdgesOfRefusalsTest::rich, x -> x.wind(0, far), Dues.OUTSIDE);
            stays("drift", EdgesOfRefusalsTest::rich, x -> x.drift(far), Dues.OUTSIDE);
            stays("see", EdgesOfRefusalsTest::rich, x -> x.see(far, true), Dues.OUTSIDE);
            stays("write", EdgesOfRefusalsTest::rich, x -> x.write(0, far), Dues.OUTSIDE);
        }
        stays("bar(0)", EdgesOfRefusalsTest::rich, x -> x.bar(0), Dues.OUTSIDE);
        stays("bar(401)", EdgesOfRefusalsTest::rich, x -> x.bar(401), Dues.OUTSIDE);
        stays("drift(61)", EdgesOfRefusalsTest::rich, x -> x.drift(61), Dues.OUTSIDE);
        stays("seed(-1)", EdgesOfRefusalsTest::rich, x -> x.seed(-1), Dues.OUTSIDE);
        stays("order(401)", EdgesOfRefusalsTest::rich, x -> x.order(401), Dues.OUTSIDE);
        stays("says(0)", EdgesOfRefusalsTest::rich, x -> x.says(0), Dues.OUTSIDE);
    }

    private static void refusedForNotChangesNothing() {
        DUES.sentence("What is refused changes nothing (NOT)");
        stays("bar(1) without a duchy", BoxedHeirs::new, x -> x.bar(1), Dues.NOT);
        stays("drift(1) without a duchy", BoxedHeirs::new, x -> x.drift(1), Dues.NOT);
        stays("quiet(1, 0) without a duchy", BoxedHeirs::new, x -> x.quiet(1, 0), Dues.NOT);
        stays("undo() without a duchy", BoxedHeirs::new, x -> x.undo(), Dues.NOT);
        stays("sit(1, 1): he sits there", EdgesOfRefusalsTest::rich, x -> x.sit(1, 1), Dues.NOT);
        stays("rise(0): he sits on none", EdgesOfRefusalsTest::rich, x -> x.rise(0), Dues.NOT);
        stays("push(1): it is down", EdgesOfRefusalsTest::rich, x -> x.push(1), Dues.NOT);
        stays("goBack(1): not kept", EdgesOfRefusalsTest::rich, x -> x.goBack(1), Dues.NOT);
        stays("parted(1, 0): one alone", EdgesOfRefusalsTest::rich, x -> x.parted(1, 0), Dues.NOT);
        stays("undo(): none", EdgesOfRefusalsTest::fullOfNotes, x -> x.undo(), Dues.NOT);
    }

    private static void refusedForFullChangesNothing() {
        DUES.sentence("What is refused changes nothing (FULL)");
        stays("feed('x') behind 240 letters", EdgesOfRefusalsTest::fullText, x -> x.feed('x'), Dues.FULL);
        stays("bar(1) above 99999", EdgesOfRefusalsTest::fullBars, x -> x.bar(1), Dues.FULL);
        stays("bar(400) above 99999", EdgesOfRefusalsTest::fullBars, x -> x.bar(400), Dues.FULL);
        stays("drift(1) above 99999", EdgesOfRefusalsTest::fullBars, x -> x.drift(1), Dues.FULL);
        stays("drift(60) above 99999", EdgesOfRefusalsTest::fullBars, x -> x.drift(60), Dues.FULL);
        stays("see(7, true), a seventh", EdgesOfRefusalsTest::fullOfNotes, x -> x.see(7, true), Dues.FULL);
        stays("write(0, 1), a sixteenth", EdgesOfRefusalsTest::fullOfNotes, x -> x.write(0, 1), Dues.FULL);
    }
}
