/** Promises 17 to 26: what is tried from now, by which nothing changes. */
public final class TriedTest {
    private static final Dues DUES = new Dues();

    public static void main(String[] args) {
        whoComes();
        comesByNests();
        inWhichOrder();
        bothAtOnce();
        aheadOfAnother();
        partedBoxes();
        partedEdges();
        quietRows();
        holding();
        lasting();
        saying();
        dryWinters();
        nothingChanges();
        DUES.end();
    }

    private static void due(String call, long got, long want) {
        DUES.due(call, got, want);
    }

    private static void whoComes() {
        BoxedHeirs x = Dues.duchyOf("d1;b3 2 2 1;b3 0 2 1;b60 0 20 3;r1;r19;");
        due("P17 with force left", x.comes(0), 2);
        due("P17 without", x.comes(1), Dues.NONE);
        due("P17 a whole tune", x.comes(2), 60);
        x.sit(0, 0);
        due("P17 held by then", x.comes(0), Dues.NONE);
        x.sit(1, 2);
        due("P17 too light", x.comes(2), 60);
        x.sit(0, 2);
        due("P17 held together", x.comes(2), Dues.NONE);
        due("P17 free again", x.comes(0), 2);
        x.bar(2);
        due("P17 it is up", x.comes(0), 0);
        x.push(0);
        due("P17 too rusty now", x.comes(0), Dues.NONE);
        due("P17 unknown", x.comes(3), Dues.UNKNOWN);
        due("P17 unknown below", x.comes(-1), Dues.UNKNOWN);
        due("P17 without a duchy", new BoxedHeirs().comes(0), Dues.UNKNOWN);
    }

    private static void comesByNests() {
        BoxedHeirs x = Dues.duchyOf("d99;b4 3 2 3;b2 1 2 3;b2 0 2 3;b5 3 2 3;i0 1;i0 2;i2 3;r2;");
        due("P17 the outer", x.comes(0), 3);
        due("P17 in the same bar", x.comes(1), 3);
        due("P17 a bar later", x.comes(2), 4);
        due("P17 a round later", x.comes(3), 8);
        x.sit(0, 0);
        due("P17 the outer is held", x.comes(3), Dues.NONE);
        x.rise(0);
        x.bar(3);
        due("P17 the outer is up", x.comes(2), 1);
        BoxedHeirs deep = Dues.duchyOf("d99;b60 0 9 3;b59 58 9 3;b58 1 9 3;b57 2 9 3;b53 4 9 3;b47 5 9 3;b43 6 9 3;i0 1;i1 2;i2 3;i3 4;i4 5;i5 6;");
        int[] wants = new int[7];
        for (int b = 0; b < 7; b++) {
            wants[b] = deep.comes(b);
        }
        for (int b = 0, turned = 0; b < 7; turned = wants[b], b++) {
            if (wants[b] - turned > 1) {
                deep.bar(wants[b] - turned - 1);
                due("P17 dynasty " + b + ", a bar too early", deep.box(b, 5), 0);
            }
            if (wants[b] > turned) {
                deep.bar(1);
            }
            due("P17 dynasty " + b, deep.box(b, 5), 1);
        }
        BoxedHeirs rust = Dues.duchyOf("d10;b10 0 9 3;b11 0 1 1;i0 1;");
        due("P17 rust in its tenth bar", rust.comes(1), Dues.NONE);
        BoxedHeirs just = Dues.duchyOf("d11;b10 0 9 3;b11 0 1 1;i0 1;");
        due("P17 just ahead of rust", just.comes(1), 11);
        BoxedHeirs later = Dues.duchyOf("d4;b10 0 4 1;");
        later.bar(5);
        due("P17 rust that has come is not counted again", later.comes(0), 5);
        BoxedHeirs fast = Dues.duchyOf("d1;b10 9 9 1;b10 0 9 1;");
        due("P17 rust in each bar", fast.comes(0), 9);
        due("P17 rust in each bar, a bar too late", fast.comes(1), Dues.NONE);
    }

    private static void inWhichOrder() {
        BoxedHeirs x = Dues.duchyOf("d99;b4 3 2 3;b2 1 2 3;b3 1 2 3;b7 0 2 3;i0 1;");
        due("P18 one", x.order(1), 3);
        due("P18 the same", x.order(2), 3);
        due("P18 two in one bar", x.order(3), 312);
        due("P18 all", x.order(7), 3124);
        due("P18 each once", x.order(400), 3124);
        x.bar(1);
        due("P18 who is up does not come", x.order(400), 124);
        x.bar(6);
        due("P18 nobody", x.order(400), 0);
        due("P18 too few", x.order(0), Dues.OUTSIDE);
        due("P18 too many", x.order(401), Dues.OUTSIDE);
        due("P18 without a duchy", new BoxedHeirs().order(400), 0);
        due("P18 outside without a duchy", new BoxedHeirs().order(-1), Dues.OUTSIDE);
        due("P18 seven", Dues.duchyOf("d9;b9 7 9 3;b9 6 9 3;b9 5 9 3;b9 4 9 3;b9 3 9 3;b9 2 9 3;b9 1 9 3;").order(9), 7654321);
    }

    private static void bothAtOnce() {
        BoxedHeirs x = Dues.duchyOf("d99;b60 0 2 3;b59 0 2 3;b59 58 2 3;b2 0 1 1;b2 1 1 1;b59 0 1 1;r9;");
        due("P19 late", x.both(0, 1), 3540);
        due("P19 as late, the other way", x.both(1, 0), 3540);
        due("P19 earlier", x.both(0, 2), 3480);
        due("P19 never", x.both(3, 4), Dues.NONE);
        due("P19 a whole tune", x.both(1, 5), 59);
        due("P19 first bar counted is 1", x.both(0, 3), 60);
        x.sit(0, 3);
        x.bar(59);
        due("P19 up or held is all one", x.both(3, 0), 1);
        due("P19 one twice", x.both(0, 0), Dues.UNKNOWN);
        due("P19 unknown", x.both(0, 6), Dues.UNKNOWN);
        due("P19 unknown below", x.both(-1, 0), Dues.UNKNOWN);
    }

    private static void aheadOfAnother() {
        BoxedHeirs x = Dues.duchyOf("d99;b5 3 2 3;b4 1 2 3;b6 2 2 3;b6 0 2 3;b5 3 2 3;");
        due("P20 never", x.ahead(0, 1), Dues.NONE);
        due("P20 by two", x.ahead(0, 2), 2);
        due("P20 it is", x.ahead(1, 0), 0);
        due("P20 by one", x.ahead(0, 4), 1);
        due("P20 the catch itself is a whole tune off", x.ahead(0, 3), 0);
        due("P20 a whole tune", x.ahead(3, 0), 4);
        x.wind(3, 1);
        due("P20 just behind the last", x.ahead(3, 2), 4);
        x.wind(0, 3);
        due("P20 at its catch", x.ahead(0, 2), 4);
        due("P20 one twice", x.ahead(1, 1), Dues.UNKNOWN);
        due("P20 unknown", x.ahead(5, 0), Dues.UNKNOWN);
        due("P20 unknown below", x.ahead(0, -1), Dues.UNKNOWN);
    }

    private static void partedBoxes() {
        BoxedHeirs x = Dues.duchyOf("d99;b5 3 1 3;b5 3 1 3;b5 3 1 3;b5 3 1 3;b5 4 1 3;");
        due("P21 two", x.parted(3, 0), 1);
        due("P21 two, figures", x.parted(3, 1), 1);
        due("P21 three", x.parted(7, 0), 3);
        due("P21 three, figures", x.parted(7, 1), 12);
        due("P21 four", x.parted(15, 0), 6);
        due("P21 four, figures", x.parted(15, 1), 123);
        due("P21 parted already", x.parted(24, 0), 0);
        due("P21 parted already, figures", x.parted(24, 1), 0);
        BoxedHeirs y = Dues.duchyOf("d99;b10 3 1 3;b10 3 1 3;b10 2 1 3;");
        due("P21 the least together", y.parted(7, 0), 2);
        due("P21 of like ones the first", y.parted(7, 1), 11);
        BoxedHeirs z = Dues.duchyOf("d99;b2 0 1 3;b2 0 1 3;b2 0 1 3;b60 59 1 3;b59 58 1 3;b60 0 1 3;b59 58 1 3;");
        due("P21 no way", z.parted(7, 0), Dues.NONE);
        due("P21 no way, figures", z.parted(7, 1), Dues.NONE);
        due("P21 the sixtieth bar counts", z.parted(33, 0), 1);
        due("P21 first figures first", z.parted(80, 1), 1);
        z.wind(3, 2);
        due("P21 behind the sixtieth they may meet", z.parted(40, 0), 0);
        BoxedHeirs first = Dues.duchyOf("d99;b12 9 1 3;b2 1 1 3;b2 1 1 3;");
        due("P21 no way for all", first.parted(7, 0), Dues.NONE);
        due("P21 the lesser ones first", first.parted(3, 1), 1);
        BoxedHeirs shifted = Dues.duchyOf("d99;b20 19 1 3;b2 1 1 3;b4 0 1 3;b4 2 1 3;");
        due("P21 by one", shifted.parted(7, 0), 1);
        due("P21 only the first can", shifted.parted(7, 1), 100);
        due("P21 the first is in the way of the last", shifted.parted(11, 1), 11);
        due("P21 four figures", Dues.duchyOf("d99;b60 19 1 3;b2 1 1 3;b8 0 1 3;b8 4 1 3;").parted(15, 1), 1000);
        // 2 and 31 meet once in 62 bars: only the sixty-first and the sixty-second are late enough
        due("P21 by nine", Dues.duchyOf("d99;b2 0 1 3;b31 9 1 3;").parted(3, 1), 9);
        due("P21 by nine, the first", Dues.duchyOf("d99;b31 9 1 3;b2 0 1 3;").parted(3, 1), 90);
        due("P21 by ten", Dues.duchyOf("d99;b2 0 1 3;b31 10 1 3;").parted(3, 1), Dues.NONE);
        due("P21 the sixty-first bar", Dues.duchyOf("d99;b2 1 1 3;b31 30 1 3;").parted(3, 0), 0);
        due("P21 the sixtieth bar", Dues.duchyOf("d99;b2 0 1 3;b31 29 1 3;").parted(3, 0) == 0 ? 0 : 1, 1);
    }

    private static void partedEdges() {
        BoxedHeirs x = Dues.duchyOf("d99;b5 3 1 3;b5 3 1 3;b5 3 1 3;b5 3 1 3;b5 4 1 3;");
        due("P21 none in it", x.parted(0, 0), Dues.NOT);
        due("P21 one", x.parted(16, 1), Dues.NOT);
        due("P21 five", x.parted(31, 0), Dues.NOT);
        due("P21 unknown", x.parted(32, 0), Dues.UNKNOWN);
        due("P21 unknown with others", x.parted(35, 0), Dues.UNKNOWN);
        due("P21 unknown below", x.parted(-1, 0), Dues.UNKNOWN);
        due("P21 unknown, the last bit", x.parted(Integer.MIN_VALUE, 0), Dues.UNKNOWN);
        due("P21 unknown ahead of outside", x.parted(32, 2), Dues.UNKNOWN);
        due("P21 outside ahead of not", x.parted(0, 2), Dues.OUTSIDE);
        due("P21 outside", x.parted(3, -1), Dues.OUTSIDE);
        due("P21 without a duchy", new BoxedHeirs().parted(1, 0), Dues.UNKNOWN);
    }

    private static void quietRows() {
        BoxedHeirs x = Dues.duchyOf("d99;b5 3 1 3;");
        due("P22 two", x.quiet(2, 0), 2);
        due("P22 at once", x.quiet(2, 1), 0);
        due("P22 of like ones the first", x.quiet(5, 1), 0);
        due("P22 four", x.quiet(7, 0), 4);
        due("P22 behind three", x.quiet(7, 1), 3);
        due("P22 as long", x.quiet(400, 1), 3);
        x.bar(2);
        due("P22 none", x.quiet(1, 0), 0);
        due("P22 none begins", x.quiet(1, 1), Dues.NONE);
        BoxedHeirs empty = Dues.duchyOf("d99;");
        due("P22 no boxes", empty.quiet(400, 0), 400);
        due("P22 no boxes, at once", empty.quiet(400, 1), 0);
        due("P22 too few", x.quiet(0, 0), Dues.OUTSIDE);
        due("P22 too many", x.quiet(401, 0), Dues.OUTSIDE);
        due("P22 what", x.quiet(1, 2), Dues.OUTSIDE);
        due("P22 what below", x.quiet(1, -1), Dues.OUTSIDE);
        due("P22 no duchy", new BoxedHeirs().quiet(1, 0), Dues.NOT);
        due("P22 outside ahead of not", new BoxedHeirs().quiet(1, 2), Dues.OUTSIDE);
    }

    private static void holding() {
        BoxedHeirs x = Dues.duchyOf("d1;b60 0 10 3;b60 0 5 3;r10;r5;r20;");
        due("P23 how many", x.hold(-1), 2);
        due("P23 the lesser", x.hold(0), 0);
        due("P23 the next", x.hold(1), 1);
        BoxedHeirs y = Dues.duchyOf("d1;b60 0 5 3;b60 0 10 3;r10;r5;");
        due("P23 the most", y.hold(-1), 2);
        due("P23 the lesser is wanted elsewhere", y.hold(0), 1);
        due("P23 there he is", y.hold(1), 0);
        y.sit(0, 0);
        due("P23 where he sits is all one", y.hold(1), 0);
        BoxedHeirs z = Dues.duchyOf("d1;b60 0 9 3;b60 0 5 1;b60 0 5 3;r5;r4;");
        due("P23 one", z.hold(-1), 1);
        due("P23 too light for it", z.hold(0), Dues.NONE);
        due("P23 nobody last", z.hold(1), 0);
        due("P23 nobody", z.hold(2), Dues.NONE);
        z.bar(1);
        due("P23 by force now", z.hold(-1), 2);
        due("P23 the lighter one", z.hold(1), 1);
        due("P23 the heavier one", z.hold(2), 0);
        BoxedHeirs all = Dues.duchyOf("d1;b9 0 9 3;b9 0 3 3;b9 0 4 3;b9 0 20 3;b9 0 8 3;b9 0 7 3;b9 0 6 3;r3;r9;r6;r8;r4;r7;");
        int[] wants = {1, 0, 4, Dues.NONE, 3, 5, 2};
        due("P23 six of seven", all.hold(-1), 6);
        for (int b = 0; b < 7; b++) {
            due("P23 of seven, " + b, all.hold(b), wants[b]);
        }
        Dues.feedAll(all, "d1;b9 0 3 3;b9 0 9 3;r3;r2;");
        all.duchy();
        due("P23 in a smaller duchy", all.hold(-1), 1);
        due("P23 in a smaller duchy, who", all.hold(0), 0);
        due("P23 in a smaller duchy, nobody", all.hold(1), Dues.NONE);
        BoxedHeirs none = Dues.duchyOf("d1;b60 0 1 3;");
        due("P23 no regents", none.hold(-1), 0);
        due("P23 no regent", none.hold(0), Dues.NONE);
        due("P23 unknown", none.hold(1), Dues.UNKNOWN);
        due("P23 unknown below", none.hold(-2), Dues.UNKNOWN);
        due("P23 without a duchy", new BoxedHeirs().hold(-1), 0);
        due("P23 unknown without a duchy", new BoxedHeirs().hold(0), Dues.UNKNOWN);
    }

    private static void lasting() {
        BoxedHeirs x = Dues.duchyOf("d7;b2 0 3 1;b2 0 3 3;b2 0 3 2;b2 0 11 0;b2 0 10 0;b2 0 3 4;i0 5;");
        due("P24 three times", x.lasts(0), 21);
        due("P24 for ever", x.lasts(1), Dues.NONE);
        due("P24 by halves", x.lasts(2), 42);
        due("P24 not by 20", x.lasts(3), Dues.NONE);
        due("P24 just by 20", x.lasts(4), 140);
        due("P24 within another", x.lasts(5), 84);
        x.bar(5);
        due("P24 on the way", x.lasts(0), 16);
        x.damp(2, true);
        due("P24 damp", x.lasts(2), 9);
        x.bar(2);
        due("P24 just rusty", x.lasts(0), 14);
        x.bar(14);
        due("P24 now", x.lasts(0), 0);
        x.oil(0);
        due("P24 oiled", x.lasts(0), 21);
        x.bar(400);
        due("P24 now, between rust and rust", x.lasts(0), 0);
        due("P24 once", Dues.duchyOf("d7;b2 0 1 1;").lasts(0), 7);
        BoxedHeirs fast = Dues.duchyOf("d1;b2 0 9 1;");
        fast.bar(3);
        due("P24 each bar", fast.lasts(0), 6);
        due("P24 a long time", Dues.duchyOf("d99;b2 0 20 1;").lasts(0), 1980);
        due("P24 unknown", x.lasts(6), Dues.UNKNOWN);
        due("P24 unknown below", x.lasts(-1), Dues.UNKNOWN);
    }

    private static void saying() {
        BoxedHeirs x = Dues.duchyOf("d7;b5 0 3 1;b26 0 3 3;b60 0 3 2;");
        due("P25 one", x.says(1), 5);
        due("P25 nothing over", x.says(2), 0);
        due("P25 over", x.says(3), 8);
        due("P25 five", x.says(33333), 14);
        due("P25 a row", x.says(123), 13);
        due("P25 six", x.says(111111), Dues.OUTSIDE);
        due("P25 no figure", x.says(0), Dues.OUTSIDE);
        due("P25 below", x.says(-1), Dues.OUTSIDE);
        due("P25 a 0 within", x.says(101), Dues.OUTSIDE);
        due("P25 a 0 at the end", x.says(10), Dues.OUTSIDE);
        due("P25 no such box", x.says(14), Dues.OUTSIDE);
        due("P25 no such box ahead", x.says(41), Dues.OUTSIDE);
        due("P25 without a duchy", new BoxedHeirs().says(1), Dues.OUTSIDE);
    }

    private static void dryWinters() {
        BoxedHeirs x = new BoxedHeirs();
        due("P26 none", x.dry(0, 0), 1000000000);
        due("P26 never", x.dry(1, 0), 0);
        due("P26 always", x.dry(60, 100), 1000000000);
        due("P26 half", x.dry(3, 50), 125000000);
        due("P26 cut each time", x.dry(6, 3), 0);
        due("P26 cut in the fifth", x.dry(5, 7), 1680);
        due("P26 sixty", x.dry(60, 99), 547156620);
        due("P26 too many", x.dry(61, 50), Dues.OUTSIDE);
        due("P26 below", x.dry(-1, 50), Dues.OUTSIDE);
        due("P26 odds above", x.dry(1, 101), Dues.OUTSIDE);
        due("P26 odds below", x.dry(1, -1), Dues.OUTSIDE);
    }

    private static void nothingChanges() {
        BoxedHeirs x = Dues.duchyOf("d3;b4 3 6 1;b5 1 2 3;b2 1 9 4;i0 2;r5;");
        x.bar(2);
        x.seed(9);
        StringBuilder looks = new StringBuilder();
        for (int time = 0; time < 2; time++) {
            StringBuilder look = new StringBuilder();
            for (int what = 3; what <= 14; what++) {
                look.append(x.told(what)).append(' ');
            }
            for (int b = 0; b < 3; b++) {
                for (int what = 4; what <= 12; what++) {
                    look.append(x.box(b, what)).append(' ');
                }
            }
            look.append(x.regent(0, 1)).append(' ').append(x.comes(0)).append(x.order(400)).append(x.both(0, 1)).append(x.ahead(0, 1));
            look.append(x.parted(7, 1)).append(x.quiet(400, 1)).append(x.hold(0)).append(x.hold(-1)).append(x.lasts(0)).append(x.says(1));
            if (time == 1) {
                due("section 3: nothing changes", looks.toString().equals(look.toString()) ? 1 : 0, 1);
            }
            looks = look;
        }
        due("section 3: the seed stays", x.seed(0), 9);
    }
}
