/** Promises 8 to 16: bars, winding, regents, pushing, oil, damp, drift, and what is undone. */
public final class DoneTest {
    private static final Dues DUES = new Dues();

    public static void main(String[] args) {
        barsAndRust();
        barEdges();
        barsAreFull();
        nodsOfPairs();
        heldOrNot();
        nests();
        sways();
        winding();
        sitting();
        rising();
        pushing();
        oiling();
        dampOrDry();
        drifting();
        driftEdges();
        undoing();
        undoKeepsSixteen();
        DUES.end();
    }

    private static void due(String call, long got, long want) {
        DUES.due(call, got, want);
    }

    private static void barsAndRust() {
        BoxedHeirs x = Dues.duchyOf("d3;b2 1 1 1;");
        due("P8 comes up", x.bar(1), 1);
        due("P8 at its catch", x.box(0, 4), 1);
        due("P8 sways", x.box(0, 6), 1);
        due("P8 stays up", x.bar(2), 1);
        due("P8 sways no more", x.box(0, 6), 0);
        due("P8 rust in the third bar", x.box(0, 7), 1);
        x.push(0);
        due("P8 force is 0", x.bar(2), 0);
        due("P8 thud", x.told(10), 1);
        x.oil(0);
        due("P8 rust comes ahead of the next bar", x.bar(2), 0);
        due("P8 thud again", x.told(10), 2);
        x.oil(0);
        due("P8 up again by oil", x.bar(2), 1);
        due("P8 rust behind the bar itself", x.box(0, 7), 1);
        due("P8 up is no thud", x.told(10), 2);
        due("P8 bars", x.told(4), 9);
    }

    private static void barEdges() {
        BoxedHeirs x = new BoxedHeirs();
        due("P8 outside ahead of not", x.bar(0), Dues.OUTSIDE);
        due("P8 no duchy", x.bar(400), Dues.NOT);
        Dues.feedAll(x, "d5;");
        x.duchy();
        due("P8 no boxes", x.bar(400), 0);
        due("P8 bars without boxes", x.told(4), 400);
        due("P8 too many", x.bar(401), Dues.OUTSIDE);
        due("P8 too few", x.bar(0), Dues.OUTSIDE);
        due("P8 below", x.bar(-400), Dues.OUTSIDE);
        due("P8 refused changes nothing", x.told(4), 400);
        due("P8 refused is not kept", x.told(13), 1);
    }

    private static void barsAreFull() {
        BoxedHeirs x = Dues.duchyOf("d99;b60 1 1 1;");
        for (int i = 0; i < 249; i++) {
            x.bar(400);
        }
        due("P8 up to 99999", x.bar(399), 1);
        due("P8 at 99999", x.told(4), 99999);
        x.drift(60);
        due("P15 from 99999", x.told(4), 100059);
        due("P16 undone", x.undo(), 15);
        due("P8 from 99999", x.bar(400), 1);
        due("P8 above", x.told(4), 100399);
        due("P8 full", x.bar(1), Dues.FULL);
        due("P8 outside ahead of full", x.bar(401), Dues.OUTSIDE);
        due("P15 full", x.drift(1), Dues.FULL);
        due("P15 outside ahead of full", x.drift(61), Dues.OUTSIDE);
        x.undo();
        due("P8 not full at 99999", x.bar(1), 1);
        due("P8 full at 100000", x.bar(1), Dues.FULL);
        due("P9 winds when full", x.wind(0, 1), x.box(0, 4));
    }

    private static void nodsOfPairs() {
        BoxedHeirs x = Dues.duchyOf("d99;b2 1 9 3;b4 1 9 3;b6 1 9 3;b6 2 9 3;");
        due("P8 three at once", x.bar(1), 3);
        due("P8 three pairs", x.told(9), 3);
        due("P8 one alone", x.bar(1), 4);
        due("P8 no pair more", x.told(9), 3);
        for (int b = 0; b < 3; b++) {
            x.push(b);
        }
        due("P8 one comes ahead", x.bar(1), 2);
        x.push(0);
        due("P8 two at once", x.bar(2), 3);
        due("P8 a pair more", x.told(9), 4);
        x.push(0);
        x.push(1);
        x.wind(0, 2);
        x.wind(1, 4);
        due("P9 both are up", x.told(5), 11);
        due("P9 winding is no nod", x.told(9), 4);
    }

    private static void heldOrNot() {
        BoxedHeirs x = Dues.duchyOf("d99;b2 1 5 3;b9 5 1 2;r2;r3;r1;");
        x.sit(0, 0);
        due("P8 too light", x.bar(1), 1);
        x.push(0);
        x.sit(1, 0);
        due("P10 held together", x.told(7), 1);
        due("P8 held", x.bar(2), 0);
        due("P8 held is a thud", x.told(10), 1);
        x.rise(0);
        due("P11 held no more", x.told(7), 0);
        due("P8 up", x.bar(2), 2);
        x.damp(1, true);
        due("P10 nobody on no force", x.told(7), 0);
        x.sit(2, 1);
        due("P10 held, without force", x.told(7), 2);
    }

    private static void nests() {
        BoxedHeirs x = Dues.duchyOf("d99;b4 3 2 3;b2 1 2 3;i0 1;");
        due("P8 the outer is down", x.bar(1), 0);
        due("P8 it thuds", x.told(10), 1);
        due("P8 both in one bar", x.bar(2), 2);
        due("P8 nod", x.told(9), 1);
        due("P8 no thud", x.told(10), 1);
        due("P12 all within", x.push(0), 2);
        due("P12 none is up", x.told(5), 0);
    }

    private static void sways() {
        BoxedHeirs x = Dues.duchyOf("d99;b2 1 3 2;b2 1 3 0;b2 1 3 0;");
        x.damp(0, true);
        x.damp(1, true);
        x.bar(1);
        due("P8 twice as many of 1", x.box(0, 6), 2);
        due("P8 twice as many of 3", x.box(1, 6), 6);
        due("P8 as many", x.box(2, 6), 3);
        x.damp(1, false);
        x.bar(2);
        due("P8 at the catch, up: a bar less", x.box(1, 6), 4);
        due("P5 sways", x.told(6), 6);
        x.bar(1);
        due("P5 one sways", x.told(6), 2);
        x.bar(400);
        due("P8 0 at least", x.box(1, 6), 0);
    }

    private static void winding() {
        BoxedHeirs x = Dues.duchyOf("d1;b5 3 2 1;b7 3 2 1;");
        due("P9 as many as can be", x.wind(0, 60), 0);
        due("P9 up", x.told(5), 1);
        due("P9 no bar goes by", x.told(4), 0);
        due("P9 no rust", x.box(0, 7), 0);
        due("P9 sways no more", x.told(6), 0);
        due("P9 the other stays", x.box(1, 4), 0);
        due("P9 on", x.wind(0, 3), 3);
        x.push(0);
        x.wind(0, 5);
        due("P9 sways", x.box(0, 6), 2);
        due("P9 a bar less", x.wind(0, 1), 4);
        due("P9 sways for one", x.box(0, 6), 1);
        due("P9 unknown", x.wind(2, 1), Dues.UNKNOWN);
        due("P9 unknown ahead of outside", x.wind(-1, 0), Dues.UNKNOWN);
        due("P9 too few", x.wind(0, 0), Dues.OUTSIDE);
        due("P9 too many", x.wind(0, 61), Dues.OUTSIDE);
        due("P9 without a duchy", new BoxedHeirs().wind(0, 1), Dues.UNKNOWN);
        BoxedHeirs y = Dues.duchyOf("d1;b2 1 2 1;b2 1 2 1;i0 1;");
        y.wind(1, 60);
        due("P9 thuds", y.told(10), 30);
    }

    private static void sitting() {
        BoxedHeirs x = Dues.duchyOf("d1;b5 3 2 1;b7 3 2 1;r3;r4;");
        due("P10 from none", x.sit(0, 1), Dues.NONE);
        due("P10 sits there", x.sit(0, 1), Dues.NOT);
        due("P10 from there", x.sit(0, 0), 1);
        due("P10 is there", x.regent(0, 1), 0);
        due("P10 another too", x.sit(1, 0), Dues.NONE);
        due("P10 weights", x.box(0, 12), 7);
        due("P10 none left", x.box(1, 12), 0);
        due("P10 no regent", x.sit(2, 0), Dues.UNKNOWN);
        due("P10 no regent below", x.sit(-1, 0), Dues.UNKNOWN);
        due("P10 no box", x.sit(0, 2), Dues.UNKNOWN);
        due("P10 on none is no box", x.sit(0, -1), Dues.UNKNOWN);
        due("P10 kept", x.told(13), 3);
    }

    private static void rising() {
        BoxedHeirs x = Dues.duchyOf("d1;b5 3 2 1;b7 3 2 1;r3;");
        due("P11 sits on none", x.rise(0), Dues.NOT);
        x.sit(0, 1);
        due("P11 rises", x.rise(0), 1);
        due("P11 rose", x.regent(0, 1), Dues.NONE);
        due("P11 again", x.rise(0), Dues.NOT);
        due("P11 unknown", x.rise(1), Dues.UNKNOWN);
        due("P11 unknown below", x.rise(-1), Dues.UNKNOWN);
    }

    private static void pushing() {
        BoxedHeirs x = Dues.duchyOf("d99;b2 1 9 3;b2 1 9 3;b2 1 9 3;b3 1 9 3;b2 1 9 3;i0 2;i2 4;i0 3;");
        due("P12 down", x.push(0), Dues.NOT);
        x.bar(1);
        due("P12 one within", x.push(2), 2);
        due("P12 who is up", x.told(5), 11);
        due("P12 who sways", x.told(6), 11);
        due("P12 down again", x.push(4), Dues.NOT);
        due("P12 those that are up", x.push(0), 2);
        due("P12 the other stays", x.told(5), 2);
        due("P12 it sways yet", x.told(6), 2);
        due("P12 unknown", x.push(5), Dues.UNKNOWN);
        due("P12 unknown below", x.push(-1), Dues.UNKNOWN);
        due("P12 kept", x.told(13), 3);
    }

    private static void oiling() {
        BoxedHeirs x = Dues.duchyOf("d2;b5 3 2 1;b7 3 2 1;");
        x.bar(5);
        due("P13 was rusty", x.oil(1), 2);
        due("P13 is not", x.box(1, 7), 0);
        due("P13 the other is", x.box(0, 7), 2);
        due("P13 again", x.oil(1), 0);
        due("P13 kept each time", x.told(13), 3);
        x.bar(1);
        due("P13 anew", x.box(1, 7), 1);
        due("P13 unknown", x.oil(2), Dues.UNKNOWN);
        due("P13 unknown below", x.oil(-1), Dues.UNKNOWN);
    }

    private static void dampOrDry() {
        BoxedHeirs x = Dues.duchyOf("d2;b5 3 2 1;b7 3 2 1;");
        due("P14 dry again", x.damp(1, false), 0);
        due("P14 damp", x.damp(1, true), 0);
        due("P14 who", x.told(8), 2);
        due("P14 damp again", x.damp(1, true), 1);
        due("P14 still", x.told(8), 2);
        due("P14 dry", x.damp(1, false), 1);
        due("P14 none", x.told(8), 0);
        due("P14 kept each time", x.told(13), 4);
        due("P14 unknown", x.damp(2, true), Dues.UNKNOWN);
        due("P14 unknown below", x.damp(-1, false), Dues.UNKNOWN);
    }

    private static BoxedHeirs driftFrom(int seed) {
        BoxedHeirs x = Dues.duchyOf("d1;b60 59 9 3;b60 1 9 3;r4;r5;");
        x.bar(2);
        x.seed(seed);
        x.drift(1);
        return x;
    }

    private static void drifting() {
        BoxedHeirs damp = driftFrom(9);
        due("P15 damp", damp.told(8), 2);
        due("P15 two draws", damp.seed(9), 731087919);
        damp.drift(1);
        due("P15 dry again", damp.told(8), 0);
        BoxedHeirs pushed = driftFrom(5);
        due("P15 pushed", pushed.told(5), 0);
        due("P15 two draws for it", pushed.seed(5), 554244747);
        due("P15 down already", pushed.drift(1), 0);
        due("P15 drawn all the same", pushed.seed(0), 554244747);
        BoxedHeirs sits = driftFrom(1);
        due("P15 sits", sits.regent(0, 1), 1);
        due("P15 the other does not", sits.regent(1, 1), Dues.NONE);
        due("P15 three draws", sits.seed(1), 662824084);
        sits.drift(1);
        due("P15 he stays", sits.regent(0, 1), 1);
        BoxedHeirs oiled = driftFrom(11);
        due("P15 oiled, then a bar", oiled.box(0, 7), 1);
        due("P15 the other is not", oiled.box(1, 7), 3);
        due("P15 two draws for oil", oiled.seed(0), 819509505);
        BoxedHeirs nothing = driftFrom(7);
        due("P15 nothing on 4", nothing.seed(0), 1282168116);
        due("P15 a bar goes by", nothing.told(4), 3);
        due("P15 nothing on 5", driftFrom(3).seed(0), 1163074432);
        BoxedHeirs alone = Dues.duchyOf("d1;b2 1 9 3;b2 0 9 3;");
        alone.seed(1);
        due("P15 how many are up", alone.drift(1), 1);
        due("P15 without regents one draw", alone.seed(0), 1103527590);
        BoxedHeirs one = Dues.duchyOf("d1;b2 1 9 3;b2 0 9 3;r7;");
        one.seed(1);
        one.drift(1);
        due("P15 one regent", one.regent(0, 1), 1);
        due("P15 is drawn too", one.seed(0), 662824084);
        BoxedHeirs none = Dues.duchyOf("d1;r3;");
        none.seed(1);
        due("P15 no boxes", none.drift(60), 0);
        due("P15 no draws", none.seed(0), 1);
        due("P15 bars", none.told(4), 60);
    }

    private static void driftEdges() {
        BoxedHeirs x = new BoxedHeirs();
        due("P15 outside ahead of not", x.drift(0), Dues.OUTSIDE);
        due("P15 no duchy", x.drift(1), Dues.NOT);
        Dues.feedAll(x, "d1;b2 1 9 3;");
        x.duchy();
        due("P15 too many", x.drift(61), Dues.OUTSIDE);
        due("P15 below", x.drift(-1), Dues.OUTSIDE);
        due("P15 refused draws nothing", x.seed(5), 0);
        due("P15 as many as can be", x.drift(60), x.box(0, 5));
        due("P15 bars", x.told(4), 60);
    }

    private static String lookOf(BoxedHeirs x) {
        StringBuilder look = new StringBuilder();
        for (int what = 4; what <= 10; what++) {
            look.append(x.told(what)).append(' ');
        }
        for (int b = 0; b < 3; b++) {
            for (int what = 4; what <= 7; what++) {
                look.append(x.box(b, what)).append(' ');
            }
        }
        return look.append(x.regent(0, 1)).append(x.regent(1, 1)).toString();
    }

    private static void undoing() {
        BoxedHeirs x = Dues.duchyOf("d2;b2 1 9 3;b2 1 9 0;b3 1 9 1;r4;r20;");
        due("P16 none", x.undo(), Dues.NOT);
        String[] looks = new String[9];
        looks[0] = lookOf(x);
        for (int i = 0; i < 8; i++) {
            switch (i) {
                case 0: x.bar(7); break;
                case 1: x.sit(1, 2); break;
                case 2: x.push(1); break;
                case 3: x.wind(2, 4); break;
                case 4: x.oil(0); break;
                case 5: x.damp(1, true); break;
                case 6: x.drift(20); break;
                default: x.rise(1); break;
            }
            due("P16 kept " + i, x.told(13), i + 1);
            looks[i + 1] = lookOf(x);
            due("P16 changed " + i, looks[i].equals(looks[i + 1]) ? 1 : 0, 0);
        }
        int seed = x.seed(5);
        due("P16 drawn", seed == 0 ? 1 : 0, 0);
        x.see(1, true);
        x.write(0, 1);
        for (int i = 7; i >= 0; i--) {
            due("P16 undone " + i, x.undo(), i);
            due("P16 as ahead of " + i, looks[i].equals(lookOf(x)) ? 1 : 0, 1);
        }
        due("P16 the seed stays", x.seed(0), 5);
        due("P16 seen stays", x.told(11), 1);
        due("P16 the book stays", x.told(12), 1);
        due("P16 none more", x.undo(), Dues.NOT);
    }

    private static void undoKeepsSixteen() {
        BoxedHeirs x = Dues.duchyOf("d2;b60 1 9 3;");
        for (int i = 0; i < 37; i++) {
            x.wind(0, 1);
            due("P16 how many", x.told(13), Math.min(i + 1, 16));
        }
        for (int i = 15; i >= 0; i--) {
            due("P16 left", x.undo(), i);
            due("P16 where it was", x.box(0, 4), 21 + i);
        }
        due("P16 the oldest are lost", x.undo(), Dues.NOT);
        due("P16 it stays", x.box(0, 4), 21);
        x.wind(0, 1);
        due("P16 one anew", x.told(13), 1);
    }
}
