/** Promises 27 to 35: what is seen, the book, the seed, images. */
public final class SeenTest {
    private static final Dues DUES = new Dues();

    public static void main(String[] args) {
        seeing();
        catchesThatFit();
        whatToTry();
        writing();
        tearing();
        judging();
        seeds();
        images();
        imagesWithoutDuchy();
        DUES.end();
    }

    private static void due(String call, long got, long want) {
        DUES.due(call, got, want);
    }

    private static void seeing() {
        BoxedHeirs x = new BoxedHeirs();
        due("P27 below", x.see(-1, true), Dues.OUTSIDE);
        due("P27 above", x.see(30, true), Dues.OUTSIDE);
        due("P27 first", x.see(29, true), 1);
        for (int i = 2; i <= 6; i++) {
            due("P27 the same again", x.see(0, i % 2 == 0), i);
        }
        due("P27 full", x.see(0, true), Dues.FULL);
        due("P27 outside ahead of full", x.see(30, true), Dues.OUTSIDE);
        due("P27 how much", x.told(11), 6);
    }

    private static void catchesThatFit() {
        BoxedHeirs x = new BoxedHeirs();
        due("P28 all of 2", x.catches(2), 3);
        due("P28 all of 30", x.catches(30), (1 << 30) - 1);
        x.see(4, true);
        due("P28 it and the two ahead, round the end", x.catches(5), 1 | 2 | 16);
        due("P28 of 6", x.catches(6), 1 | 16 | 32);
        due("P28 of 7", x.catches(7), 16 | 32 | 64);
        due("P28 not in a tune of 4", x.catches(4), 15);
        due("P28 of 30", x.catches(30), 16 | 32 | 64);
        x.see(5, false);
        due("P28 of 7, less", x.catches(7), 16);
        due("P28 of 6, less", x.catches(6), 16);
        due("P28 of 5, the same", x.catches(5), 1 | 2 | 16);
        x.see(4, false);
        due("P28 nothing fits", x.catches(7), 0);
        due("P28 tunes that are too short to tell", x.catches(3), 7);
        due("P28 below", x.catches(1), Dues.OUTSIDE);
        due("P28 above", x.catches(31), Dues.OUTSIDE);
        BoxedHeirs y = new BoxedHeirs();
        y.see(1, false);
        due("P28 it always lifts in 3", y.catches(3), 0);
        due("P28 it always lifts in 2", y.catches(2), 0);
        due("P28 one of 4", y.catches(4), 1);
    }

    private static void whatToTry() {
        BoxedHeirs x = new BoxedHeirs();
        due("P29 2 are not parted", x.tryBar(2), Dues.NONE);
        due("P29 3 are not parted", x.tryBar(3), Dues.NONE);
        due("P29 of like ones the least", x.tryBar(4), 0);
        due("P29 of 30", x.tryBar(30), 0);
        x.see(0, false);
        // left of 12: 3 to 11; bar 0 parts none, bar 1 one from eight, bar 2 two from seven, bar 3 three from six
        due("P29 by three from 3 on", x.tryBar(12), 3);
        // left of 8: 3 to 7; bar 2 parts two from three, bar 3 three from two
        due("P29 of 8", x.tryBar(8), 2);
        // left of 5: 3, 4; bars 1 and 4 part them
        due("P29 of 5", x.tryBar(5), 1);
        // left of 4: 3 alone
        due("P29 one is left", x.tryBar(4), Dues.NONE);
        x.see(0, true);
        due("P29 none is left", x.tryBar(12), Dues.NONE);
        due("P29 below", x.tryBar(1), Dues.OUTSIDE);
        due("P29 above", x.tryBar(31), Dues.OUTSIDE);
    }

    private static void writing() {
        BoxedHeirs x = Dues.duchyOf("d1;b2 1 1 1;b3 1 1 1;");
        due("P30 unknown", x.write(2, 0), Dues.UNKNOWN);
        due("P30 unknown ahead of outside", x.write(-1, 60), Dues.UNKNOWN);
        due("P30 below", x.write(0, -1), Dues.OUTSIDE);
        due("P30 above", x.write(0, 60), Dues.OUTSIDE);
        for (int i = 1; i <= 15; i++) {
            due("P30 how many", x.write(i % 2, i == 15 ? 59 : 0), i);
        }
        due("P30 full", x.write(0, 0), Dues.FULL);
        due("P30 outside ahead of full", x.write(0, 60), Dues.OUTSIDE);
        due("P30 entries", x.told(12), 15);
        due("P32 the last is wrong", x.judge(), 14);
        due("P30 without a duchy", new BoxedHeirs().write(0, 0), Dues.UNKNOWN);
    }

    private static void tearing() {
        BoxedHeirs x = Dues.duchyOf("d1;b2 1 1 1;");
        due("P31 nothing", x.tear(), 0);
        x.see(4, true);
        x.see(5, true);
        x.write(0, 1);
        due("P31 both", x.tear(), 3);
        due("P31 nothing seen", x.told(11), 0);
        due("P31 no book", x.told(12), 0);
        due("P31 again", x.tear(), 0);
        due("P31 all fits", x.catches(7), 127);
        x.see(0, false);
        due("P31 what lifted is forgotten", x.catches(7), 127 - 7);
        due("P31 nothing to undo of it", x.undo(), Dues.NOT);
    }

    private static void judging() {
        BoxedHeirs x = Dues.duchyOf("d1;b2 1 1 1;b3 1 1 1;");
        due("P32 no book", x.judge(), Dues.NONE);
        x.write(0, 0);
        x.write(1, 0);
        x.write(1, 2);
        due("P32 the third", x.judge(), 2);
        x.bar(1);
        due("P32 the first of them", x.judge(), 0);
        x.bar(1);
        due("P32 the second", x.judge(), 1);
        x.tear();
        x.write(1, 2);
        due("P32 right", x.judge(), Dues.NONE);
        x.undo();
        due("P32 wrong as undone", x.judge(), 0);
    }

    private static void seeds() {
        BoxedHeirs x = new BoxedHeirs();
        due("P33 0 at first", x.seed(2147483647), 0);
        due("P33 what it was", x.seed(0), 2147483647);
        due("P33 below", x.seed(-1), Dues.OUTSIDE);
        due("P33 far below", x.seed(Integer.MIN_VALUE), Dues.OUTSIDE);
        due("P33 refused changes nothing", x.seed(7), 0);
        Dues.feedAll(x, "d1;b2 1 1 1;");
        x.duchy();
        x.seed(2147483647);
        x.drift(1);
        // 2147483647 is 2 to the 31 less 1: the first draw is 2 to the 31 less 1103515245, and 12345
        long first = (1L << 31) - 1103515245L + 12345L;
        long draw = first / 65536 % 6;
        long second = (first * 1103515245L + 12345L) & 0x7fffffffL;
        due("P33 the draws from it", x.seed(0), draw <= 1 || draw == 3 ? second : first);
    }

    private static void images() {
        BoxedHeirs x = Dues.duchyOf("d2;b2 1 9 3;b3 0 2 1;b2 1 5 2;r4;r30;");
        x.seed(5);
        x.bar(3);
        x.sit(1, 1);
        x.damp(2, true);
        due("P35 not kept", x.goBack(0), Dues.NOT);
        due("P34 kept", x.keep(0), 1);
        due("P34 nothing can be undone", x.undo(), Dues.NOT);
        due("P35 the other is not kept", x.goBack(1), Dues.NOT);
        x.drift(40);
        x.push(0);
        x.rise(1);
        x.see(1, true);
        x.write(0, 1);
        due("P34 the other", x.keep(1), 1);
        int bars = x.told(4);
        int seed = x.seed(11);
        due("P35 back", x.goBack(0), 1);
        due("P35 nothing can be undone", x.undo(), Dues.NOT);
        due("P35 bars", x.told(4), 3);
        due("P35 up", x.told(5), 7);
        due("P35 held", x.told(7), 2);
        due("P35 damp", x.told(8), 4);
        due("P35 nods", x.told(9), 1);
        due("P35 thuds", x.told(10), 0);
        due("P35 rust", x.box(1, 7), 1);
        due("P35 sways", x.box(0, 6), 7);
        due("P35 seat", x.regent(1, 1), 1);
        due("P35 seed", x.seed(12), 5);
        due("P35 seen stays", x.told(11), 1);
        due("P35 the book stays", x.told(12), 1);
        x.bar(1);
        due("P35 again", x.goBack(0), 1);
        due("P35 nothing of it can be undone", x.undo(), Dues.NOT);
        due("P35 bars again", x.told(4), 3);
        due("P35 the seed again", x.seed(13), 5);
        due("P35 the other", x.goBack(1), 1);
        due("P35 its bars", x.told(4), bars);
        due("P35 its seed", x.seed(0), seed);
        x.keep(0);
        due("P34 written over", x.goBack(0), 1);
        due("P34 bars of the new one", x.told(4), bars);
        due("P34 its own seed", x.seed(0), 0);
        due("P34 unknown", x.keep(2), Dues.UNKNOWN);
        due("P34 unknown below", x.keep(-1), Dues.UNKNOWN);
        due("P35 unknown", x.goBack(2), Dues.UNKNOWN);
        due("P35 unknown below", x.goBack(-1), Dues.UNKNOWN);
        x.bar(1);
        x.keep(3);
        x.goBack(-5);
        due("P34 refused forgets nothing", x.told(13), 1);
    }

    private static void imagesWithoutDuchy() {
        BoxedHeirs x = new BoxedHeirs();
        x.seed(3);
        due("P34 of nothing", x.keep(1), 1);
        x.seed(4);
        due("P35 to nothing", x.goBack(1), 1);
        due("P35 its seed", x.seed(0), 3);
        Dues.feedAll(x, "d2;");
        x.duchy();
        due("P3 gone with a duchy", x.goBack(1), Dues.NOT);
    }
}
