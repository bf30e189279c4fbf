/** The edges that section 3 names of what is tried, and promises 17 to 26: a sentence of the document each. */
public final class EdgesOfTriesTest {
    /** Each box is in the one ahead of it, and has its catch a bar too early for it: up behind 60, 119, 178, .. 414 bars. */
    private static final String LATE = "d99;b60 0 9 3;b60 59 9 3;b60 58 9 3;b60 57 9 3;b60 56 9 3;b60 55 9 3;b60 54 9 3;"
        + "i0 1;i1 2;i2 3;i3 4;i4 5;i5 6;";
    private static final Dues DUES = new Dues();

    public static void main(String[] args) {
        nothingChanges();
        comes();
        comesWithinAnother();
        comesByRust();
        comesNever();
        order();
        orderEdges();
        orderOnce();
        both();
        bothWhetherUpOrHeld();
        next();
        ahead();
        partedByNineAtMost();
        partedOverSixtyBars();
        partedTwoToFour();
        partedLeast();
        partedFigures();
        parted();
        quiet();
        quietRows();
        quietNone();
        end();
        endNever();
        largestDuchy();
        hold();
        holdMost();
        holdFirst();
        holdNobody();
        lasts();
        lastsNever();
        says();
        saysOutside();
        depth();
        dynasty();
        dry();
        DUES.end();
    }

    private static void due(String call, long got, long want) {
        DUES.due(call, got, want);
    }

    private static void nothingChanges() {
        DUES.sentence("TRIED from now, as nothing else is done; nothing changes by it");
        for (int which = 0; which < 10; which++) {
            BoxedHeirs x = tried();
            switch (which) {
                case 0: x.comes(1); break;
                case 1: x.order(400); break;
                case 2: x.both(0, 1); break;
                case 3: x.ahead(1, 0); break;
                case 4: x.parted(3, 0); break;
                case 5: x.quiet(400, 0); break;
                case 6: x.hold(0); break;
                case 7: x.lasts(0); break;
                case 8: x.says(12); break;
                default: x.dry(60, 99); break;
            }
            due("all is as it was, call " + which, Twins.lookThrough(x).equals(Twins.lookThrough(tried())) ? 1 : 0, 1);
        }
    }

    private static BoxedHeirs tried() {
        BoxedHeirs x = Dues.duchyOf("d3;b4 3 6 1;b5 1 9 4;i0 1;r5;");
        x.bar(2);
        x.keep(0);
        x.sit(0, 1);
        x.bar(2);
        x.seed(3);
        return x;
    }

    private static void comes() {
        DUES.sentence("COMES: behind how many BARS (0 .. 4000) a BOX is UP first (0: it is)");
        BoxedHeirs x = Dues.duchyOf(LATE);
        for (int b = 0; b < 7; b++) {
            due("comes(" + b + ")", x.comes(b), 60 + 59 * b);
        }
        x.bar(59);
        due("comes(0), in the next bar", x.comes(0), 1);
        x.bar(1);
        due("comes(0), up", x.comes(0), 0);
        due("comes(6)", x.comes(6), 354);
        x.bar(354);
        due("comes(6), up", x.comes(6), 0);
        x.bar(400);
        due("comes(6), up for long", x.comes(6), 0);
        x.push(6);
        due("comes(6), down again, a bar behind its catch and 39 more", x.comes(6), 20);
        BoxedHeirs one = Dues.duchyOf("d99;b2 0 1 3;b2 1 1 3;");
        due("at its catch now: a whole tune", one.comes(0), 2);
        due("at its catch in the next bar", one.comes(1), 1);
    }

    private static void comesWithinAnother() {
        DUES.sentence("COMES: .. a BOX is UP first (within another)");
        BoxedHeirs x = Dues.duchyOf("d99;b9 5 9 3;b4 1 9 3;b4 2 9 3;b9 4 9 3;i0 1;i0 2;i0 3;");
        due("the outer", x.comes(0), 5);
        due("in the same bar as the outer", x.comes(1), 5);
        due("a bar later", x.comes(2), 6);
        due("a bar too early, so a tune later", x.comes(3), 13);
        x.bar(5);
        due("the outer is up, it comes in the next bar", x.comes(2), 1);
        due("the outer is up, it comes in its eighth bar", x.comes(3), 8);
        x.push(1);
        due("the outer is up, it is at its catch, but down: a whole tune", x.comes(1), 4);
    }

    private static void comesByRust() {
        DUES.sentence("COMES: .. by RUST as it comes from now on");
        for (int gone = 0; gone < 8; gone++) {
            BoxedHeirs x = Dues.duchyOf("d4;b60 0 2 1;b60 0 2 1;b60 0 2 1;b60 0 2 1;");
            if (gone > 0) {
                x.bar(gone);
            }
            // Two rusts from now, the second of them in this bar; a heir who comes up in that very bar is not late.
            int second = 8 - gone % 4;
            for (int b = 0; b < 4; b++) {
                x.oil(b);
                Dues.windTo(x, b, 60 - second + 1 - b);
            }
            due("behind " + gone + ", a bar ahead of the second rust", x.comes(0), second - 1);
            due("behind " + gone + ", in the bar of the second rust", x.comes(1), second);
            due("behind " + gone + ", a bar later", x.comes(2), Dues.NONE);
            due("behind " + gone + ", two bars later", x.comes(3), Dues.NONE);
        }
    }

    private static void comesNever() {
        DUES.sentence("COMES; NONE");
        BoxedHeirs x = Dues.duchyOf("d1;b3 2 2 1;b3 2 3 1;b9 8 8 1;b9 8 9 1;b2 1 9 3;b2 0 9 3;i4 5;r9;");
        due("force 1 in its bar", x.comes(0), 2);
        due("force 2 in its bar", x.comes(1), 2);
        due("force 1 in its eighth bar", x.comes(2), 8);
        due("force 2 in its eighth bar", x.comes(3), 8);
        due("within another", x.comes(5), 2);
        x.sit(0, 4);
        due("held for ever", x.comes(4), Dues.NONE);
        due("within one that is held for ever", x.comes(5), Dues.NONE);
        x.bar(1);
        x.oil(0);
        x.wind(0, 1);
        x.push(0);
        due("too rusty a tune later", x.comes(0), Dues.NONE);
        BoxedHeirs rust = Dues.duchyOf("d1;b3 0 2 1;b3 2 9 3;b2 1 1 1;i1 2;");
        due("force 0 in its bar", rust.comes(0), Dues.NONE);
        due("too rusty when the outer is up", rust.comes(2), Dues.NONE);
        BoxedHeirs weight = Dues.duchyOf("d1;b9 5 9 1;b9 6 9 1;r4;r4;");
        weight.sit(0, 0);
        weight.sit(1, 1);
        due("5 against 4 in its bar", weight.comes(0), 5);
        due("4 against 4 in its bar", weight.comes(1), Dues.NONE);
        due("without a duchy", new BoxedHeirs().comes(0), Dues.UNKNOWN);
        due("a box that there is not", x.comes(6), Dues.UNKNOWN);
        due("a box below", x.comes(-1), Dues.UNKNOWN);
    }

    private static void order() {
        DUES.sentence("ORDER: who come UP in the next n BARS (1 .. 400); 0: nobody");
        BoxedHeirs x = Dues.duchyOf(LATE);
        due("order(1)", x.order(1), 0);
        due("order(59)", x.order(59), 0);
        due("order(60)", x.order(60), 1);
        due("order(118)", x.order(118), 1);
        due("order(119)", x.order(119), 12);
        due("order(400): the last comes behind 414", x.order(400), 123456);
        x.bar(13);
        due("order(400): the last comes behind 401", x.order(400), 123456);
        x.bar(1);
        due("order(400): the last comes behind 400", x.order(400), 1234567);
        due("order(399): the last comes behind 400", x.order(399), 123456);
    }

    private static void orderEdges() {
        DUES.sentence("ORDER. OUTSIDE");
        BoxedHeirs x = Dues.duchyOf(LATE);
        due("order(0)", x.order(0), Dues.OUTSIDE);
        due("order(-1)", x.order(-1), Dues.OUTSIDE);
        due("order(401)", x.order(401), Dues.OUTSIDE);
        due("order(400) without a duchy", new BoxedHeirs().order(400), 0);
        due("order(401) without a duchy", new BoxedHeirs().order(401), Dues.OUTSIDE);
        due("order(400) without boxes", Dues.duchyOf("d1;").order(400), 0);
    }

    private static void orderOnce() {
        DUES.sentence("one behind the other (in one BAR the lesser first; each once): figures, each 1 more than the BOX");
        String box = "b2 1 9 3;";
        due("seven in one bar", Dues.duchyOf("d9;" + box.repeat(7)).order(1), 1234567);
        due("seven, each once", Dues.duchyOf("d9;" + box.repeat(7)).order(400), 1234567);
        BoxedHeirs x = Dues.duchyOf("d9;b9 7 9 3;b9 6 9 3;b9 5 9 3;b9 4 9 3;b9 3 9 3;b9 2 9 3;b9 2 9 3;");
        due("the other way round, two in one bar", x.order(7), 6754321);
        x.bar(3);
        due("who is up does not come", x.order(400), 4321);
        x.bar(10);
        due("all are up", x.order(400), 0);
    }

    private static void both() {
        DUES.sentence("BOTH: behind how many BARS (1 .. 3600) two BOXES first come to their CATCHES at once; NONE");
        BoxedHeirs x = Dues.duchyOf("d99;b60 0 9 3;b59 0 9 3;b30 1 9 3;b60 0 9 3;b2 0 9 3;b2 1 9 3;");
        due("both at their catches now: not at once, but later", x.both(0, 1), 3540);
        due("the other way", x.both(1, 0), 3540);
        due("a tune", x.both(0, 3), 60);
        due("never", x.both(0, 2), Dues.NONE);
        due("never, the other way", x.both(2, 0), Dues.NONE);
        due("never, of the shortest", x.both(4, 5), Dues.NONE);
        x.bar(59);
        due("in the next bar", x.both(0, 3), 1);
        due("in the next bar, of other tunes", x.both(0, 4), 1);
        x.wind(1, 58);
        due("in the next bar, by winding", x.both(0, 1), 1);
        due("one twice", x.both(3, 3), Dues.UNKNOWN);
        due("a box that there is not", x.both(0, 6), Dues.UNKNOWN);
        due("a box below", x.both(-1, 0), Dues.UNKNOWN);
    }

    private static void bothWhetherUpOrHeld() {
        DUES.sentence("(whether UP or DOWN, HELD or not)");
        BoxedHeirs x = Dues.duchyOf("d99;b4 3 9 3;b6 1 9 3;r9;");
        due("down", x.both(0, 1), 7);
        x.sit(0, 0);
        due("held", x.both(0, 1), 7);
        x.bar(7);
        due("one is up, one is held, it is now", x.both(0, 1), 12);
        x.rise(0);
        x.bar(4);
        due("both are up", x.both(0, 1), 8);
    }

    private static void next() {
        DUES.sentence("NEXT of a BOX: behind how many BARS (1 to its B) it comes to its CATCH first");
        BoxedHeirs x = Dues.duchyOf("d99;b60 0 9 3;b60 1 9 3;b59 58 9 3;b60 59 9 3;");
        due("60 is not less than 1", x.ahead(0, 1), Dues.NONE);
        due("1 is less than 60", x.ahead(1, 0), 0);
        due("58 is less than 60", x.ahead(2, 0), 0);
        due("58 is less than 59", x.ahead(2, 3), 0);
        due("59 is less than 60", x.ahead(3, 0), 0);
        due("60 is less than 59 by two bars", x.ahead(0, 3), 2);
        x.wind(1, 1);
        due("at its catch: a whole tune, 60 is not less than 60", x.ahead(1, 0), 1);
    }

    private static void ahead() {
        DUES.sentence("AHEAD: by how many BARS (0 to B less 1) a BOX would have to be further in its TUNE at least; NONE");
        BoxedHeirs x = Dues.duchyOf("d99;b60 0 9 3;b60 2 9 3;b60 1 9 3;b2 0 9 3;b2 0 9 3;b5 4 9 3;");
        due("59 of 60", x.ahead(0, 1), 59);
        due("1 of 2", x.ahead(3, 1), 1);
        due("1 of 2, alike", x.ahead(3, 4), 1);
        due("nothing", x.ahead(1, 0), 0);
        due("never ahead of the next bar", x.ahead(0, 2), Dues.NONE);
        due("never ahead of the next bar, of the shortest", x.ahead(3, 2), Dues.NONE);
        due("4 to 1: three further", x.ahead(5, 3), 3);
        x.wind(5, 1);
        due("3 to 1: two further", x.ahead(5, 3), 2);
        x.wind(5, 3);
        due("at its catch, 5 to 1: four further", x.ahead(5, 3), 4);
        due("one twice", x.ahead(0, 0), Dues.UNKNOWN);
        due("a box that there is not", x.ahead(6, 0), Dues.UNKNOWN);
        due("a box below", x.ahead(0, -1), Dues.UNKNOWN);
    }

    private static int parted(String text, int set, int what) {
        return Dues.duchyOf(text).parted(set, what);
    }

    private static void partedByNineAtMost() {
        DUES.sentence("PARTED: by how many BARS, 0 to 9 each; NONE");
        // A tune of 31 comes twice in 60 bars, once with either bar of a tune of 2, unless its first is put to bar 0.
        due("nine", parted("d99;b2 0 1 3;b31 9 1 3;", 3, 0), 9);
        due("nine, figures", parted("d99;b2 0 1 3;b31 9 1 3;", 3, 1), 9);
        due("nine, the first", parted("d99;b31 9 1 3;b2 0 1 3;", 3, 1), 90);
        due("ten", parted("d99;b2 0 1 3;b31 10 1 3;", 3, 0), Dues.NONE);
        due("ten, figures", parted("d99;b2 0 1 3;b31 10 1 3;", 3, 1), Dues.NONE);
        due("three in a tune of 2", parted("d99;b2 0 1 3;b2 0 1 3;b2 0 1 3;", 7, 0), Dues.NONE);
        due("four in a tune of 3", parted("d99;b3 0 1 3;b3 0 1 3;b3 0 1 3;b3 0 1 3;", 15, 1), Dues.NONE);
    }

    private static void partedOverSixtyBars() {
        DUES.sentence("so that in the next 60 BARS no two of them come to their CATCHES at once");
        due("at once in the sixtieth", parted("d99;b59 1 1 3;b60 0 1 3;", 3, 0), 1);
        due("at once in the sixtieth, figures", parted("d99;b59 1 1 3;b60 0 1 3;", 3, 1), 1);
        due("at once in the sixty-first", parted("d99;b59 2 1 3;b60 1 1 3;", 3, 0), 0);
        due("at once now, which is none of the next", parted("d99;b59 0 1 3;b60 0 1 3;", 3, 0), 0);
        due("at once in the first", parted("d99;b59 1 1 3;b60 1 1 3;", 3, 0), 1);
    }

    private static void partedTwoToFour() {
        DUES.sentence("BOXES of a SET (two to four of them); NOT: fewer than two, more than four in the SET");
        BoxedHeirs x = Dues.duchyOf("d99;b9 0 1 3;b9 0 1 3;b9 0 1 3;b9 0 1 3;b9 0 1 3;b9 0 1 3;b9 0 1 3;");
        for (int set = 0; set < 128; set++) {
            int many = Integer.bitCount(set);
            int want = many < 2 || many > 4 ? Dues.NOT : many * (many - 1) / 2;
            due("parted(" + set + ", 0)", x.parted(set, 0), want);
        }
    }

    private static void partedLeast() {
        DUES.sentence("the least together; of like ones the first (BOX by BOX the lesser)");
        due("one is shifted: rather the last", parted("d99;b9 4 1 3;b9 4 1 3;", 3, 1), 1);
        due("two, of like ones the first", parted("d99;b9 4 1 3;b9 4 1 3;b9 4 1 3;", 7, 1), 12);
        due("two by one each", parted("d99;b10 3 1 3;b10 3 1 3;b10 2 1 3;", 7, 1), 11);
        due("one by one, though it is the first", parted("d99;b20 19 1 3;b2 1 1 3;b4 0 1 3;", 7, 1), 100);
        due("less together, though its figures are more", parted("d99;b4 1 1 3;b4 1 1 3;b4 0 1 3;b4 3 1 3;", 11, 1), 10);
    }

    private static void partedFigures() {
        DUES.sentence("(as a number of figures, the first BOX's first); what = 0 how many, 1 the figures");
        BoxedHeirs x = Dues.duchyOf("d99;b60 19 1 3;b2 1 1 3;b8 0 1 3;b8 4 1 3;");
        due("four figures", x.parted(15, 1), 1000);
        due("how many", x.parted(15, 0), 1);
        due("three of them", x.parted(7, 1), 100);
        due("two of them", x.parted(3, 1), 1);
        due("none of them", x.parted(14, 1), 0);
        due("none of them, how many", x.parted(14, 0), 0);
        BoxedHeirs y = Dues.duchyOf("d99;b4 0 1 3;b4 0 1 3;b4 0 1 3;b4 0 1 3;");
        due("nothing ahead of the first", y.parted(15, 1), 123);
        due("nothing ahead of the first, how many", y.parted(15, 0), 6);
    }

    private static void parted() {
        DUES.sentence("parted(): UNKNOWN, OUTSIDE, NOT");
        BoxedHeirs x = Dues.duchyOf("d99;b9 0 1 3;b9 0 1 3;");
        due("parted(3, 2)", x.parted(3, 2), Dues.OUTSIDE);
        due("parted(3, -1)", x.parted(3, -1), Dues.OUTSIDE);
        due("parted(4, 0)", x.parted(4, 0), Dues.UNKNOWN);
        due("parted(2, 0)", x.parted(2, 0), Dues.NOT);
        due("parted(0, 1)", x.parted(0, 1), Dues.NOT);
    }

    private static void quiet() {
        DUES.sentence("QUIET: the most BARS one behind the other, of the next n (1 .. 400). OUTSIDE, NOT: no DUCHY");
        BoxedHeirs x = Dues.duchyOf("d99;b60 0 9 3;");
        due("quiet(1, 0)", x.quiet(1, 0), 1);
        due("quiet(58, 0)", x.quiet(58, 0), 58);
        due("quiet(59, 0)", x.quiet(59, 0), 59);
        due("quiet(60, 0)", x.quiet(60, 0), 59);
        due("quiet(400, 0)", x.quiet(400, 0), 59);
        BoxedHeirs none = Dues.duchyOf("d99;");
        due("quiet(1, 0) without boxes", none.quiet(1, 0), 1);
        due("quiet(400, 0) without boxes", none.quiet(400, 0), 400);
        due("quiet(400, 1) without boxes", none.quiet(400, 1), 0);
        for (int n : new int[] {0, -1, 401}) {
            due("quiet(" + n + ", 0)", x.quiet(n, 0), Dues.OUTSIDE);
        }
        due("quiet(1, 2)", x.quiet(1, 2), Dues.OUTSIDE);
        due("quiet(1, -1)", x.quiet(1, -1), Dues.OUTSIDE);
        due("quiet(1, 0) without a duchy", new BoxedHeirs().quiet(1, 0), Dues.NOT);
        due("quiet(400, 1) without a duchy", new BoxedHeirs().quiet(400, 1), Dues.NOT);
    }

    private static void quietRows() {
        DUES.sentence("how many; behind how many BARS the first such row begins (0: at once)");
        BoxedHeirs x = Dues.duchyOf("d99;b60 30 9 3;");
        int[][] wants = {{29, 29, 0}, {58, 29, 0}, {59, 29, 0}, {60, 30, 30}, {89, 59, 30}, {90, 59, 30}, {400, 59, 30}};
        for (int[] want : wants) {
            due("quiet(" + want[0] + ", 0)", x.quiet(want[0], 0), want[1]);
            due("quiet(" + want[0] + ", 1)", x.quiet(want[0], 1), want[2]);
        }
        x.bar(29);
        due("quiet(2, 1): behind its catch", x.quiet(2, 1), 1);
        x.bar(1);
        due("quiet(1, 1): it is at its catch now, up", x.quiet(1, 1), 0);
        due("quiet(60, 0)", x.quiet(60, 0), 59);
    }

    private static void quietNone() {
        DUES.sentence("(NONE: there is none)");
        BoxedHeirs x = Dues.duchyOf("d99;b2 0 9 3;b2 1 9 3;");
        due("quiet(400, 0)", x.quiet(400, 0), 0);
        due("quiet(400, 1)", x.quiet(400, 1), Dues.NONE);
        BoxedHeirs y = Dues.duchyOf("d99;b60 1 9 3;");
        due("quiet(1, 0)", y.quiet(1, 0), 0);
        due("quiet(1, 1)", y.quiet(1, 1), Dues.NONE);
        due("quiet(2, 0)", y.quiet(2, 0), 1);
        due("quiet(2, 1)", y.quiet(2, 1), 1);
    }

    private static void end() {
        DUES.sentence("END: behind how many BARS (1 .. 9999) all BOXES are at BAR 0 at once first");
        BoxedHeirs x = Dues.duchyOf("d99;b60 0 9 3;b59 0 9 3;");
        due("all are there now: not at once, but later", x.told(14), 3540);
        x.wind(0, 59);
        x.wind(1, 58);
        due("in the next bar", x.told(14), 1);
        x.wind(0, 1);
        x.wind(1, 1);
        due("later again", x.told(14), 3540);
        due("one alone", Dues.duchyOf("d99;b2 1 9 3;").told(14), 2);
        BoxedHeirs alike = Dues.duchyOf("d99;b4 0 9 3;b6 0 9 3;b5 0 9 3;");
        due("all are there now, tunes with like parts", alike.told(14), 60);
        alike.wind(2, 1);
        due("4 and 6 each 12 bars, 5 in its second of them", alike.told(14), 24);
        for (int late = 9997; late <= 10001; late++) {
            BoxedHeirs edge = Dues.duchyOf("d99;b59 0 1 0;b58 0 1 0;b57 0 1 0;");
            for (int b = 0; b < 3; b++) {
                Dues.windTo(edge, b, Math.floorMod(-late, edge.box(b, 0)));
            }
            due("behind " + late, edge.told(14), late > 9999 ? Dues.NONE : late);
        }
    }

    private static void endNever() {
        DUES.sentence("END: NONE (without BOXES, too)");
        due("without boxes", Dues.duchyOf("d99;").told(14), Dues.NONE);
        due("without a duchy", new BoxedHeirs().told(14), Dues.NONE);
        BoxedHeirs x = Dues.duchyOf("d99;b60 0 9 3;b30 0 9 3;");
        due("ahead of it", x.told(14), 60);
        x.wind(1, 1);
        due("never", x.told(14), Dues.NONE);
        due("too late", Dues.duchyOf("d99;b60 0 9 3;b59 0 9 3;b53 0 9 3;").told(14), Dues.NONE);
        String far = "d99;b59 0 9 3;b58 0 9 3;b57 0 9 3;b55 0 9 3;b53 0 9 3;b49 0 9 3;b47 0 9 3;";
        due("far too late", Dues.duchyOf(far).told(14), Dues.NONE);
    }

    private static void largestDuchy() {
        DUES.sentence("7 BOXES at most .. 6 REGENTS at most (tried with as many as can be)");
        BoxedHeirs x = Dues.duchyOf("d1;b2 1 20 3;b3 1 20 3;b4 1 20 3;b5 1 20 3;b6 1 20 3;b10 1 20 3;b12 1 20 3;r19;r20;r21;r30;r1;r20;");
        due("END", x.told(14), 60);
        due("comes(6)", x.comes(6), 1);
        due("order(400)", x.order(400), 1234567);
        due("both(5, 6)", x.both(5, 6), 1);
        due("ahead(6, 5)", x.ahead(6, 5), Dues.NONE);
        due("quiet(60, 0)", x.quiet(60, 0), 1);
        due("quiet(60, 1)", x.quiet(60, 1), 1);
        due("hold(-1)", x.hold(-1), 4);
        int[] wants = {1, 2, 3, 5, Dues.NONE, Dues.NONE, Dues.NONE};
        for (int b = 0; b < 7; b++) {
            due("hold(" + b + ")", x.hold(b), wants[b]);
        }
        due("lasts(6)", x.lasts(6), Dues.NONE);
        due("says(77777): 60 together", x.says(77777), 8);
        Dues.feedAll(x, "d1;b2 1 20 3;");
        x.duchy();
        due("END of a duchy that is less than the one ahead of it", x.told(14), 2);
        due("order(400) of it", x.order(400), 1);
        due("quiet(2, 0) of it", x.quiet(2, 0), 1);
    }

    private static void holds(String text, int... wants) {
        BoxedHeirs x = Dues.duchyOf(text);
        due("hold(-1) of [" + text + "]", x.hold(-1), wants[0]);
        for (int b = 1; b < wants.length; b++) {
            due("hold(" + (b - 1) + ") of [" + text + "]", x.hold(b - 1), wants[b]);
        }
    }

    private static void hold() {
        DUES.sentence("HOLD: REGENTS to BOXES, one at most to each, each where he alone would HOLD it by FORCE now");
        holds("d1;b9 1 7 3;r6;", 0, -1);
        holds("d1;b9 1 7 3;r7;", 1, 0);
        holds("d1;b9 1 7 3;r8;", 1, 0);
        holds("d1;b9 1 7 3;r4;r4;", 0, -1);
        holds("d1;b9 1 7 3;b9 1 7 3;r30;", 1, 0, -1);
        BoxedHeirs x = Dues.duchyOf("d1;b9 1 7 1;r6;");
        due("ahead of rust", x.hold(0), Dues.NONE);
        x.bar(1);
        due("by force now", x.hold(0), 0);
        x.bar(30);
        due("no force, but he weighs 1 or more", x.hold(0), 0);
        due("where he sits is all one", x.sit(0, 0), Dues.NONE);
        due("he is taken all the same", x.hold(0), 0);
    }

    private static void holdMost() {
        DUES.sentence("HOLD: the most BOXES: how many");
        holds("d1;b9 1 5 3;b9 1 10 3;r10;r5;", 2, 1, 0);
        holds("d1;b9 1 1 3;b9 1 2 3;b9 1 3 3;r3;r2;r1;", 3, 2, 1, 0);
        holds("d1;b9 1 1 3;b9 1 1 3;b9 1 1 3;b9 1 1 3;b9 1 1 3;b9 1 1 3;b9 1 1 3;r1;r1;r1;r1;r1;r1;", 6, 0, 1, 2, 3, 4, 5, -1);
        holds("d1;b9 1 20 3;r1;r2;r3;r4;r5;r6;", 0, -1);
        holds("d1;b9 1 6 3;r1;r2;r3;r4;r5;r6;", 1, 5);
        holds("d1;r1;r2;", 0);
        holds("d1;b9 1 1 3;", 0, -1);
        due("without a duchy", new BoxedHeirs().hold(-1), 0);
        BoxedHeirs less = Dues.duchyOf("d1;b9 1 1 3;b9 1 1 3;b9 1 1 3;r1;r1;r1;");
        due("three", less.hold(-1), 3);
        Dues.feedAll(less, "d1;b9 1 1 3;b9 1 2 3;r1;r1;r1;");
        less.duchy();
        due("one, in a duchy that is less than the one ahead of it", less.hold(-1), 1);
        Dues.feedAll(less, "d1;b9 1 2 3;r1;r1;r1;");
        less.duchy();
        due("none, in one that is less yet", less.hold(-1), 0);
        Dues.feedAll(less, "d1;r1;r1;r1;");
        less.duchy();
        due("none, in one without boxes", less.hold(-1), 0);
    }

    private static void holdFirst() {
        DUES.sentence("HOLD: of like ones the first (BOX by BOX the lesser REGENT, nobody last)");
        holds("d1;b9 1 5 3;b9 1 5 3;r9;r9;r9;", 2, 0, 1);
        holds("d1;b9 1 5 3;b9 1 5 3;r5;", 1, 0, -1);
        holds("d1;b9 1 5 3;b9 1 6 3;b9 1 5 3;r5;", 1, 0, -1, -1);
        holds("d1;b9 1 9 3;b9 1 5 3;b9 1 5 3;r5;", 1, -1, 0, -1);
        holds("d1;b9 1 9 3;b9 1 5 3;r9;", 1, 0, -1);
        holds("d1;b9 1 3 3;b9 1 9 3;r9;r9;r3;", 2, 0, 1);
    }

    private static void holdNobody() {
        DUES.sentence("hold(): b = NONE how many, else the REGENT of a BOX; NONE. UNKNOWN");
        BoxedHeirs x = Dues.duchyOf("d1;b9 1 9 3;b9 1 5 3;r5;");
        due("hold(-1)", x.hold(-1), 1);
        due("hold(0)", x.hold(0), Dues.NONE);
        due("hold(1)", x.hold(1), 0);
        due("hold(2)", x.hold(2), Dues.UNKNOWN);
        due("hold(-2)", x.hold(-2), Dues.UNKNOWN);
        due("hold(0) without a duchy", new BoxedHeirs().hold(0), Dues.UNKNOWN);
    }

    private static void lasts() {
        DUES.sentence("LASTS: behind how many BARS (0 .. 2000) FORCE of a BOX is 0 first, by RUST as it comes");
        BoxedHeirs x = Dues.duchyOf("d99;b9 1 20 1;b9 1 1 1;b9 1 10 0;");
        due("as long as can be", x.lasts(0), 1980);
        due("by halves, as long as can be", x.lasts(2), 1980);
        due("once", x.lasts(1), 99);
        x.bar(98);
        due("in the next bar", x.lasts(1), 1);
        due("a long time yet", x.lasts(0), 1882);
        x.bar(1);
        due("now", x.lasts(1), 0);
        due("a long time less 99", x.lasts(0), 1881);
        x.oil(0);
        due("oiled just behind the rust: as long as can be again", x.lasts(0), 1980);
        x.bar(1);
        x.oil(0);
        due("oiled a bar later", x.lasts(0), 1979);
        due("now, a bar behind the rust", x.lasts(1), 0);
        BoxedHeirs y = Dues.duchyOf("d1;b9 1 2 2;b9 1 3 2;");
        due("dry", y.lasts(0), 4);
        y.damp(0, true);
        y.damp(1, true);
        due("damp: now", y.lasts(0), 0);
        due("damp: behind two", y.lasts(1), 2);
    }

    private static void lastsNever() {
        DUES.sentence("LASTS; NONE. UNKNOWN");
        BoxedHeirs x = Dues.duchyOf("d1;b9 1 11 0;b9 1 1 3;b9 1 12 2;b9 1 13 2;b9 1 11 4;b9 1 7 4;b9 1 8 4;i0 5;i0 6;");
        due("1 is left", x.lasts(0), Dues.NONE);
        due("by no rust", x.lasts(1), Dues.NONE);
        due("2 is left", x.lasts(2), Dues.NONE);
        due("1 is left of kind 4", x.lasts(4), Dues.NONE);
        due("nothing is left within another", x.lasts(5), 20);
        due("1 is left within another", x.lasts(6), Dues.NONE);
        x.damp(2, true);
        x.damp(3, true);
        due("nothing is left, damp", x.lasts(2), 20);
        due("1 is left, damp", x.lasts(3), Dues.NONE);
        x.bar(400);
        due("1 is left, as rusty as can be", x.lasts(0), Dues.NONE);
        due("nothing is left", x.lasts(2), 0);
        due("a box that there is not", x.lasts(7), Dues.UNKNOWN);
        due("a box below", x.lasts(-1), Dues.UNKNOWN);
    }

    private static void says() {
        DUES.sentence("SAYS: a row of 1 to 5 THUDS by BOXES: each stands for its B; the number all these together leave over by 26");
        BoxedHeirs x = Dues.duchyOf("d1;b26 1 1 1;b25 1 1 1;b27 1 1 1;b13 1 1 1;b60 1 1 1;b2 1 1 1;b52 1 1 1;");
        int[] wants = {0, 25, 1, 13, 8, 2, 0};
        for (int b = 0; b < 7; b++) {
            due("says(" + (b + 1) + ")", x.says(b + 1), wants[b]);
        }
        due("says(44): 26 together", x.says(44), 0);
        due("says(23): 52 together", x.says(23), 0);
        due("says(33): 54 together", x.says(33), 2);
        due("says(55555): 300 together", x.says(55555), 14);
        due("says(11111)", x.says(11111), 0);
        due("says(77777)", x.says(77777), 0);
        due("says(66666)", x.says(66666), 10);
        due("says(12345): 151 together", x.says(12345), 21);
    }

    private static void saysOutside() {
        DUES.sentence("OUTSIDE: no row of THUDS, a BOX that there is not");
        BoxedHeirs x = Dues.duchyOf("d1;b26 1 1 1;b25 1 1 1;");
        for (int row : new int[] {0, -1, -11, Integer.MIN_VALUE, Integer.MAX_VALUE, 111111, 100000, 1000000, 10, 101, 20, 11011, 3, 13, 31, 9,
            99999, 11113, 31111, 12321, 18}) {
            due("says(" + row + ")", x.says(row), Dues.OUTSIDE);
        }
        due("says(2)", x.says(2), 25);
        due("says(22222)", x.says(22222), 21);
        due("says(8) of seven boxes", Dues.duchyOf("d1;" + "b2 0 1 0;".repeat(7)).says(8), Dues.OUTSIDE);
        due("says(7) of seven boxes", Dues.duchyOf("d1;" + "b2 0 1 0;".repeat(7)).says(7), 2);
        due("says(1) without boxes", Dues.duchyOf("d1;").says(1), Dues.OUTSIDE);
    }

    private static void depth() {
        DUES.sentence("DEPTH of a BOX: in how many it is, one within the other");
        BoxedHeirs x = Dues.duchyOf(LATE);
        for (int b = 0; b < 7; b++) {
            due("of a nest of seven, " + b, x.box(b, 10), b);
        }
        BoxedHeirs y = Dues.duchyOf("d1;" + "b2 0 1 0;".repeat(7) + "i0 1;i0 2;i0 3;i0 4;i0 5;i0 6;");
        for (int b = 0; b < 7; b++) {
            due("side by side, " + b, y.box(b, 10), b == 0 ? 0 : 1);
        }
    }

    private static void dynasty() {
        DUES.sentence("DYNASTY: it, and all BOXES in it, and in these, and so on (a SET)");
        BoxedHeirs x = Dues.duchyOf(LATE);
        for (int b = 0; b < 7; b++) {
            due("of a nest of seven, " + b, x.box(b, 11), 127 - ((1 << b) - 1));
        }
        BoxedHeirs y = Dues.duchyOf("d1;" + "b2 0 1 0;".repeat(7) + "i0 2;i1 3;i2 4;i3 5;i2 6;");
        int[] wants = {1 | 4 | 16 | 64, 2 | 8 | 32, 4 | 16 | 64, 8 | 32, 16, 32, 64};
        for (int b = 0; b < 7; b++) {
            due("of two nests, " + b, y.box(b, 11), wants[b]);
        }
    }

    private static void dry() {
        DUES.sentence("DRY: odds of n dry winters (0 .. 60), each by q of a hundred (0 .. 100): a BILLION times q / 100 each (cut). OUTSIDE");
        BoxedHeirs x = new BoxedHeirs();
        for (int q : new int[] {0, 1, 50, 100}) {
            due("dry(0, " + q + ")", x.dry(0, q), 1000000000);
        }
        due("dry(1, 0)", x.dry(1, 0), 0);
        due("dry(60, 0)", x.dry(60, 0), 0);
        due("dry(1, 1)", x.dry(1, 1), 10000000);
        due("dry(4, 1)", x.dry(4, 1), 10);
        due("dry(5, 1)", x.dry(5, 1), 0);
        due("dry(1, 99)", x.dry(1, 99), 990000000);
        due("dry(60, 99), cut each time", x.dry(60, 99), 547156620);
        due("dry(1, 100)", x.dry(1, 100), 1000000000);
        due("dry(60, 100)", x.dry(60, 100), 1000000000);
        due("dry(-1, 50)", x.dry(-1, 50), Dues.OUTSIDE);
        due("dry(61, 50)", x.dry(61, 50), Dues.OUTSIDE);
        due("dry(1, -1)", x.dry(1, -1), Dues.OUTSIDE);
        due("dry(1, 101)", x.dry(1, 101), Dues.OUTSIDE);
        due("dry(0, 101)", x.dry(0, 101), Dues.OUTSIDE);
    }
}
