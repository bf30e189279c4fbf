/** Promises 1 to 7: a new object, the text and its faults, what is told of the duchy. */
public final class DuchyTest {
    private static final String TWO_BOXES = "d1;b2 0 1 0;b2 0 1 0;";
    private static final Dues DUES = new Dues();

    public static void main(String[] args) {
        newObject();
        feeding();
        goodTexts();
        faultsOfPlace();
        faultsOfNumbers();
        faultsOfCountsAndNests();
        faultLeavesAllElse();
        earlierTextsAreForgotten();
        duchyStartsAnew();
        toldOfAll();
        toldEnd();
        ofBoxes();
        forces();
        ofRegents();
        DUES.end();
    }

    private static void due(String call, long got, long want) {
        DUES.due(call, got, want);
    }

    private static void newObject() {
        BoxedHeirs x = new BoxedHeirs();
        for (int what = 0; what <= 13; what++) {
            due("P1 told " + what, x.told(what), 0);
        }
        due("P1 end", x.told(14), Dues.NONE);
        due("P1 fault", x.fault(), Dues.NONE);
        due("P1 box", x.box(0, 0), Dues.UNKNOWN);
        due("P1 regent", x.regent(0, 0), Dues.UNKNOWN);
        due("P1 bar", x.bar(1), Dues.NOT);
        due("P1 goBack", x.goBack(0), Dues.NOT);
        due("P1 undo", x.undo(), Dues.NOT);
        due("P1 seed", x.seed(1), 0);
    }

    private static void feeding() {
        BoxedHeirs x = new BoxedHeirs();
        due("P2 0", x.feed(0), 1);
        due("P2 255", x.feed(255), 2);
        due("P2 -1", x.feed(-1), Dues.OUTSIDE);
        due("P2 256", x.feed(256), Dues.OUTSIDE);
        due("P2 letters", x.told(3), 2);
        for (int i = 3; i <= 240; i++) {
            due("P2 letter", x.feed(' '), i);
        }
        due("P2 full", x.feed(' '), Dues.FULL);
        due("P2 outside ahead of full", x.feed(256), Dues.OUTSIDE);
        due("P2 letters when full", x.told(3), 240);
        due("P2 its fault", x.duchy(), -11);
        due("P2 letters behind", x.told(3), 0);
        Dues.feedAll(x, "d1;b2 1 1 1;");
        Dues.feedAll(x, " ".repeat(228));
        due("P2 240 letters are read", x.duchy(), 1);
        text("d1;r1" + " ".repeat(235), -11, 240);
        text("d1;r" + "1".repeat(236), -12, 4);
    }

    private static void text(String text, int answer, int letter) {
        BoxedHeirs x = new BoxedHeirs();
        Dues.feedAll(x, text);
        due("P3 duchy() of \"" + text + "\"", x.duchy(), answer);
        due("P4 fault() of \"" + text + "\"", x.fault(), letter);
        due("P3 letters behind \"" + text + "\"", x.told(3), 0);
    }

    private static void goodTexts() {
        text("", 0, Dues.NONE);
        text("   ", 0, Dues.NONE);
        text("d1;", 0, Dues.NONE);
        text("d99;", 0, Dues.NONE);
        text("d001;", 0, Dues.NONE);
        text(" d 1 ; b  2 1  20 4 ; r 30 ; ", 1, Dues.NONE);
        text("d1;b60 59 20 4;", 1, Dues.NONE);
        text("d1;b060 059 020 004;r030;", 1, Dues.NONE);
        text("d1;r1;b2 0 1 0;r2;b2 0 1 0;i0 1;r3;", 2, Dues.NONE);
        text("d1;b2 0 1 0;b2 0 1 0;b2 0 1 0;b2 0 1 0;b2 0 1 0;b2 0 1 0;b2 0 1 0;i5 6;i4 5;i3 4;i2 3;i1 2;i0 1;", 7, Dues.NONE);
    }

    private static void faultsOfPlace() {
        text("D1;", -11, 0);
        text("1", -11, 0);
        text(";", -11, 0);
        text("  b2 0 1 0;", -11, 2);
        text("r1;", -11, 0);
        text("d", -11, 1);
        text("d;", -11, 1);
        text("dd", -11, 1);
        text("d ", -11, 2);
        text("d1", -11, 2);
        text("d1  ", -11, 4);
        text("d1d", -11, 2);
        text("d1 2;", -11, 3);
        text("d1;;", -11, 3);
        text("d1;x", -11, 3);
        text("d1;7", -11, 3);
        text("d1;\t", -11, 3);
        text("d1;" + (char) 233, -11, 3);
        text("d1;b2 0 1 0", -11, 11);
        text("d1;b2 0 1;", -11, 9);
        text("d1;b2 0 1 0 1;", -11, 12);
        text("d1;b2,0 1 0;", -11, 5);
        text("d1;bd", -11, 4);
        text(TWO_BOXES + "i01;", -11, 24);
        text(TWO_BOXES + "i0", -11, 23);
        text("d1;r;", -11, 4);
        text("d1;r1 d", -11, 6);
    }

    private static void faultsOfNumbers() {
        text("d0;", -12, 1);
        text("d0", -12, 1);
        text("d0x", -12, 1);
        text("d100;", -12, 1);
        text("d 0001;", -12, 2);
        text("d11111111111111111111;", -12, 1);
        text("d1;b1 0 1 0;", -12, 4);
        text("d1;b61 0 1 0;", -12, 4);
        text("d1;b1234 0 1 0;", -12, 4);
        text("d1;b2 2 1 0;", -12, 6);
        text("d1;b60 60 1 0;", -12, 7);
        text("d1;b20 1 0;", -12, 9);
        text("d1;b2 0 21 0;", -12, 8);
        text("d1;b2 0 1 5;", -12, 10);
        text("d1;b2 0 1 0000;", -12, 10);
        text("d1;r0;", -12, 4);
        text("d1;r31;", -12, 4);
        text("d1;i0 1;", -12, 4);
        text(TWO_BOXES + "i2 1;", -12, 22);
        text(TWO_BOXES + "i0 2;", -12, 24);
        text(TWO_BOXES + "i1 2;", -12, 24);
        text("d1;b2 0 1 0;i0 1;b2 0 1 0;", -12, 15);
    }

    private static void faultsOfCountsAndNests() {
        text("d1;d2;", -13, 3);
        text("d1; d", -13, 4);
        String seven = "d1;b2 0 1 0;b2 0 1 0;b2 0 1 0;b2 0 1 0;b2 0 1 0;b2 0 1 0;b2 0 1 0;";
        text(seven + "b2 0 1 0;", -13, 66);
        text(seven + "i0 1;i0 2;i0 3;i0 4;i0 5;i0 6;i0 1;", -13, 96);
        text("d1;r1;r1;r1;r1;r1;r1;", 0, Dues.NONE);
        text("d1;r1;r1;r1;r1;r1;r1;r", -13, 21);
        text(TWO_BOXES + "i1 1;", -14, 24);
        text(TWO_BOXES + "i1  0", -14, 25);
        text(TWO_BOXES + "i0 1;i0 1;", -14, 29);
    }

    private static void faultLeavesAllElse() {
        BoxedHeirs x = Dues.duchyOf("d1;b2 1 9 3;r4;");
        x.bar(1);
        x.keep(1);
        x.sit(0, 0);
        x.see(3, true);
        x.write(0, 1);
        x.seed(77);
        Dues.feedAll(x, "d1;b2 1 1 1;x");
        due("P3 fault", x.duchy(), -11);
        due("P4 its letter", x.fault(), 12);
        due("P4 once more", x.fault(), 12);
        due("P3 boxes stay", x.told(1), 1);
        due("P3 spring stays", x.box(0, 2), 9);
        due("P3 bars stay", x.told(4), 1);
        due("P3 up stays", x.told(5), 1);
        due("P3 seen stays", x.told(11), 1);
        due("P3 book stays", x.told(12), 1);
        due("P3 undone stays", x.told(13), 1);
        due("P3 seat stays", x.regent(0, 1), 0);
        due("P3 image stays", x.goBack(1), 1);
        due("P3 seed of the image", x.seed(1), 0);
        Dues.feedAll(x, "d1;");
        due("P3 good again", x.duchy(), 0);
        due("P4 none again", x.fault(), Dues.NONE);
    }

    private static void earlierTextsAreForgotten() {
        BoxedHeirs x = Dues.duchyOf("d15;r1;r1;r1;r1;");
        Dues.feedAll(x, "d1");
        due("P3 the end", x.duchy(), -11);
        due("P4 the end", x.fault(), 2);
        Dues.feedAll(x, "d1;r2;r2;r2");
        due("P3 the end again", x.duchy(), -11);
        Dues.feedAll(x, "d1;r2;r2;r2;");
        due("P3 three regents", x.duchy(), 0);
        due("P5 three regents", x.told(2), 3);
        Dues.feedAll(x, "d1;r2;r2;r2");
        due("P3 the end, where a clause ended", x.duchy(), -11);
        due("P4 the end, where a clause ended", x.fault(), 11);
        String nest = "d1;b2 0 1 0;b2 0 1 0;b2 0 1 0;b2 0 1 0;b2 0 1 0;b2 0 1 0;b2 0 1 0;i0 1;i0 2;i0 3;i0 4;i0 5;i0 6;";
        for (int i = 0; i < 2; i++) {
            Dues.feedAll(x, nest);
            due("P3 six nests", x.duchy(), 7);
        }
        Dues.feedAll(x, "d1;b2 0 1 0;b2 0 1 0;");
        due("P3 two boxes", x.duchy(), 2);
        due("P6 in none", x.box(1, 9), Dues.NONE);
        due("P6 alone", x.box(0, 11), 1);
    }

    private static void duchyStartsAnew() {
        BoxedHeirs x = Dues.duchyOf("d1;b2 1 9 3;b2 1 9 3;b3 0 9 3;r4;r20;");
        x.sit(1, 2);
        x.bar(3);
        x.damp(0, true);
        x.keep(0);
        x.oil(0);
        x.see(3, true);
        x.write(0, 1);
        x.seed(77);
        due("P3 nods ahead", x.told(9), 1);
        due("P3 thuds ahead", x.told(10), 1);
        Dues.feedAll(x, "d5;b2 1 9 3;b2 1 9 3;r2;r3;");
        due("P3 boxes", x.duchy(), 2);
        due("P3 R", x.told(0), 5);
        for (int what = 3; what <= 13; what++) {
            due("P3 anew, told " + what, x.told(what), 0);
        }
        for (int what = 4; what <= 7; what++) {
            due("P3 anew, box " + what, x.box(0, what), 0);
        }
        due("P3 nobody sits", x.regent(1, 1), Dues.NONE);
        due("P3 images are gone", x.goBack(0), Dues.NOT);
        due("P3 nothing to undo", x.undo(), Dues.NOT);
        due("P3 the seed stays", x.seed(78), 77);
        x.bar(1);
        x.see(1, true);
        due("P3 of nothing", x.duchy(), 0);
        due("P3 no duchy", x.bar(1), Dues.NOT);
        due("P3 no boxes", x.box(0, 0), Dues.UNKNOWN);
        due("P3 no R", x.told(0), 0);
        due("P3 no bars", x.told(4), 0);
        due("P3 nobody is up", x.told(5), 0);
        due("P3 nothing seen", x.told(11), 0);
        due("P3 the seed still stays", x.seed(0), 78);
    }

    private static void toldOfAll() {
        BoxedHeirs x = Dues.duchyOf("d4;b2 1 1 3;b2 1 3 3;b2 1 9 3;b3 2 2 3;r9;r30;");
        due("P5 R", x.told(0), 4);
        due("P5 boxes", x.told(1), 4);
        due("P5 regents", x.told(2), 2);
        Dues.feedAll(x, "d1;b");
        due("P5 letters", x.told(3), 4);
        x.sit(0, 2);
        x.sit(1, 3);
        x.bar(2);
        x.damp(1, true);
        x.damp(3, true);
        x.see(1, true);
        x.see(2, false);
        x.write(0, 1);
        x.write(1, 1);
        x.write(2, 1);
        due("P5 bars", x.told(4), 2);
        due("P5 up", x.told(5), 3);
        due("P5 sways", x.told(6), 2);
        due("P5 held", x.told(7), 12);
        due("P5 damp", x.told(8), 10);
        due("P5 nods", x.told(9), 1);
        due("P5 thuds", x.told(10), 2);
        due("P5 seen", x.told(11), 2);
        due("P5 book", x.told(12), 3);
        due("P5 undone", x.told(13), 5);
        due("P5 below", x.told(-1), Dues.OUTSIDE);
        due("P5 above", x.told(15), Dues.OUTSIDE);
    }

    private static void toldEnd() {
        due("P5 end without boxes", Dues.duchyOf("d1;").told(14), Dues.NONE);
        BoxedHeirs x = Dues.duchyOf("d1;b2 0 1 0;b3 0 1 0;");
        due("P5 end", x.told(14), 6);
        x.bar(5);
        due("P5 end in a bar", x.told(14), 1);
        x.bar(1);
        due("P5 end, not now", x.told(14), 6);
        x.wind(1, 1);
        due("P5 end, turned", x.told(14), 2);
        BoxedHeirs never = Dues.duchyOf("d1;b4 0 1 0;b6 0 1 0;");
        never.wind(0, 1);
        due("P5 never", never.told(14), Dues.NONE);
        // 49 * 51 * 4 = 9996; 10 * 17 * 59 = 10030
        due("P5 late", Dues.duchyOf("d1;b49 0 1 0;b51 0 1 0;b4 0 1 0;").told(14), 9996);
        due("P5 too late", Dues.duchyOf("d1;b10 0 1 0;b17 0 1 0;b59 0 1 0;").told(14), Dues.NONE);
        BoxedHeirs wrap = Dues.duchyOf("d1;b59 0 1 0;b58 0 1 0;b57 0 1 0;b55 0 1 0;b53 0 1 0;b49 0 1 0;b47 0 1 0;");
        due("P5 far too late", wrap.told(14), Dues.NONE);
        for (int b = 0; b < 7; b++) {
            wrap.wind(b, wrap.box(b, 0) - 1);
        }
        due("P5 soon, for all that", wrap.told(14), 1);
        for (int late = 9999; late <= 10000; late++) {
            BoxedHeirs edge = Dues.duchyOf("d1;b59 0 1 0;b58 0 1 0;b57 0 1 0;");
            for (int b = 0; b < 3; b++) {
                edge.wind(b, edge.box(b, 0) - late % edge.box(b, 0));
            }
            due("P5 behind " + late, edge.told(14), late == 9999 ? 9999 : Dues.NONE);
        }
    }

    private static void ofBoxes() {
        BoxedHeirs x = Dues.duchyOf("d2;b7 2 9 1;b5 1 6 4;b3 1 20 0;i1 2;i0 1;r3;r4;r20;");
        int[] wants = {5, 1, 6, 4, 3, 0, 0, 1, 9, 0, 1, 6, 7};
        x.sit(0, 1);
        x.sit(1, 1);
        x.bar(3);
        for (int what = 0; what < wants.length; what++) {
            due("P6 what " + what, x.box(1, what), wants[what]);
        }
        due("P6 up", x.box(0, 5), 1);
        due("P6 sways", x.box(0, 6), 8);
        due("P6 in none", x.box(0, 9), Dues.NONE);
        due("P6 depth 0", x.box(0, 10), 0);
        due("P6 dynasty of all", x.box(0, 11), 7);
        due("P6 depth 2", x.box(2, 10), 2);
        due("P6 dynasty of one", x.box(2, 11), 4);
        due("P6 no weights", x.box(2, 12), 0);
        due("P6 unknown", x.box(3, 0), Dues.UNKNOWN);
        due("P6 unknown below", x.box(-1, 0), Dues.UNKNOWN);
        due("P6 unknown ahead of outside", x.box(3, 13), Dues.UNKNOWN);
        due("P6 outside", x.box(0, 13), Dues.OUTSIDE);
        due("P6 outside below", x.box(0, -1), Dues.OUTSIDE);
    }

    private static void forces() {
        BoxedHeirs x = Dues.duchyOf("d1;b60 59 9 0;b60 59 9 1;b60 59 9 2;b60 59 9 3;b60 59 9 4;b60 59 1 4;i0 4;i4 5;");
        int[][] wants = {{9, 9, 9, 9, 12, 7}, {8, 6, 8, 9, 11, 6}, {4, 0, 4, 9, 7, 2}, {0, 0, 0, 9, 2, 0}};
        int[] bars = {0, 3, 7, 20};
        for (int i = 0; i < bars.length; i++) {
            if (bars[i] > 0) {
                x.bar(bars[i]);
            }
            for (int b = 0; b < 6; b++) {
                due("P6 force of " + b + " at " + i, x.box(b, 8), wants[i][b]);
            }
        }
        due("P6 rust ends at 20", x.box(0, 7), 20);
        for (int b = 0; b < 6; b++) {
            x.oil(b);
            x.damp(b, true);
        }
        int[] damp = {9, 9, 7, 9, 12, 7};
        for (int b = 0; b < 6; b++) {
            due("P6 force of " + b + ", damp", x.box(b, 8), damp[b]);
        }
        BoxedHeirs small = Dues.duchyOf("d1;b60 59 1 2;");
        small.damp(0, true);
        due("P6 0 at least", small.box(0, 8), 0);
    }

    private static void ofRegents() {
        BoxedHeirs x = Dues.duchyOf("d2;r3;b7 2 9 1;b7 2 9 1;r30;");
        due("P7 weight", x.regent(0, 0), 3);
        due("P7 weight of the next", x.regent(1, 0), 30);
        due("P7 sits on none", x.regent(1, 1), Dues.NONE);
        x.sit(1, 1);
        due("P7 sits", x.regent(1, 1), 1);
        due("P7 unknown", x.regent(2, 0), Dues.UNKNOWN);
        due("P7 unknown below", x.regent(-1, 5), Dues.UNKNOWN);
        due("P7 outside", x.regent(0, 2), Dues.OUTSIDE);
        due("P7 outside below", x.regent(0, -1), Dues.OUTSIDE);
    }
}
