/** The edges that section 3 names of what is seen, written, drawn, undone, kept, and promises 27 to 35: a sentence each. */
public final class EdgesOfNotesTest {
    private static final Dues DUES = new Dues();

    public static void main(String[] args) {
        seenAtMost();
        see();
        hookLiftsRoundTheEnd();
        hookOfShortTunes();
        catchesBelowTheTune();
        catches();
        tryBest();
        tryNone();
        tryBar();
        bookAtMost();
        write();
        wrong();
        tear();
        judge();
        seedAtFirst();
        seedLeftOver();
        drawsOnlyWithBoxes();
        drawOfDamp();
        drawOfPush();
        drawOfSeats();
        drawOfOil();
        drawsOfNothing();
        drawsAheadOfEachBar();
        undoneAtMost();
        undoneAnew();
        undoneOnlyWhatIsDone();
        undoneIsAllOfSectionTwo();
        seedStays();
        imagesKeep();
        seed();
        keep();
        goBack();
        imagesOfNoDuchy();
        DUES.end();
    }

    private static void due(String call, long got, long want) {
        DUES.due(call, got, want);
    }

    private static void seenAtMost() {
        DUES.sentence("SEEN (6 at most); FULL (6)");
        BoxedHeirs x = new BoxedHeirs();
        for (int i = 1; i <= 6; i++) {
            due("see, time " + i, x.see(3, true), i);
        }
        due("see, a seventh", x.see(4, false), Dues.FULL);
        due("how much", x.told(11), 6);
        due("the seventh is not seen", x.catches(7), 8 | 16 | 32);
        x.tear();
        due("see, torn", x.see(4, false), 1);
    }

    private static void see() {
        DUES.sentence("at BAR x (0 .. 29) it did, or not; SEEN: how much. OUTSIDE");
        BoxedHeirs x = new BoxedHeirs();
        due("see(-1, true)", x.see(-1, true), Dues.OUTSIDE);
        due("see(30, true)", x.see(30, true), Dues.OUTSIDE);
        due("see(0, true)", x.see(0, true), 1);
        due("see(29, false)", x.see(29, false), 2);
        due("see(0, false), the other way, is seen too", x.see(0, false), 3);
        due("how much", x.told(11), 3);
    }

    private static int fits(int bar, boolean lifts, int tune) {
        BoxedHeirs x = new BoxedHeirs();
        x.see(bar, lifts);
        return x.catches(tune);
    }

    private static void hookLiftsRoundTheEnd() {
        DUES.sentence("the hook lifts in it and in the two BARS ahead of it (behind the last is 0)");
        int all = (1 << 30) - 1;
        for (int bar = 0; bar < 30; bar++) {
            int three = 1 << bar | 1 << (bar + 1) % 30 | 1 << (bar + 2) % 30;
            due("lifts at " + bar + " of 30", fits(bar, true, 30), three);
            due("does not at " + bar + " of 30", fits(bar, false, 30), all - three);
        }
        due("lifts at 2 of 4", fits(2, true, 4), 4 | 8 | 1);
        due("lifts at 3 of 4", fits(3, true, 4), 8 | 1 | 2);
        due("does not at 3 of 4", fits(3, false, 4), 4);
    }

    private static void hookOfShortTunes() {
        DUES.sentence("the hook lifts in it and in the two BARS ahead of it (a TUNE of 2 or 3 has no others)");
        for (int tune = 2; tune <= 3; tune++) {
            for (int bar = 0; bar < tune; bar++) {
                due("lifts at " + bar + " of " + tune, fits(bar, true, tune), (1 << tune) - 1);
                due("does not at " + bar + " of " + tune, fits(bar, false, tune), 0);
            }
        }
    }

    private static void catchesBelowTheTune() {
        DUES.sentence("CATCHES of such a TUNE: BARS by which all that is SEEN at BARS below B is so");
        for (int tune = 2; tune <= 30; tune++) {
            int all = (1 << tune) - 1;
            due("nothing is seen, of " + tune, new BoxedHeirs().catches(tune), all);
            if (tune < 30) {
                due("seen at " + tune + ", which it has not", fits(tune, false, tune), all);
                due("seen at " + tune + ", which it has not, too", fits(tune, true, tune), all);
            }
            int last = tune - 1;
            int want = tune <= 3 ? all : 1 << last | 1 | 2;
            due("seen at " + last + " of " + tune, fits(last, true, tune), want);
        }
        BoxedHeirs x = new BoxedHeirs();
        x.see(4, true);
        x.see(4, false);
        due("nothing is so", x.catches(9), 0);
        due("nothing is so at a bar that it has not", x.catches(4), 15);
    }

    private static void catches() {
        DUES.sentence("CATCHES of a TUNE of B BARS (2 .. 30). OUTSIDE");
        BoxedHeirs x = Dues.duchyOf("d1;b5 1 1 1;");
        due("catches(2)", x.catches(2), 3);
        due("catches(30)", x.catches(30), 1073741823);
        due("catches(1)", x.catches(1), Dues.OUTSIDE);
        due("catches(31)", x.catches(31), Dues.OUTSIDE);
        due("catches(0)", x.catches(0), Dues.OUTSIDE);
    }

    private static void tryBest() {
        DUES.sentence("TRY: the greatest part that is alike is least; of like ones the least");
        BoxedHeirs x = new BoxedHeirs();
        due("of 4: three from one by each", x.tryBar(4), 0);
        due("of 6: three from three by each", x.tryBar(6), 0);
        due("of 30: three from 27 by each", x.tryBar(30), 0);
        x.see(0, true);
        // left: 0, 1, 2; bar 1 parts 0 from 1 and 2, as do the last two the other way
        due("of 30, three are left", x.tryBar(30), 1);
        x.see(1, false);
        // left: 0; none is to be parted
        due("of 30, one is left", x.tryBar(30), Dues.NONE);
        BoxedHeirs y = new BoxedHeirs();
        y.see(0, false);
        // left of 9: 3 to 8; by bar 3 three from three, by bar 2 two from four, by bar 1 one from five
        due("of 9, six are left", y.tryBar(9), 3);
        // left of 7: 3 to 6; by bar 2 two from two
        due("of 7, four are left", y.tryBar(7), 2);
        // left of 5: 3 and 4; by bar 1 one from one
        due("of 5, two are left", y.tryBar(5), 1);
        BoxedHeirs z = new BoxedHeirs();
        z.see(26, true);
        // left of 29: 26, 27, 28; bar 24 lifts with 26 alone
        due("of 29, by the least of them", z.tryBar(29), 24);
        BoxedHeirs last = new BoxedHeirs();
        last.see(25, true);
        last.see(24, false);
        // left of 28: 27 alone; of 26: 1 alone, since 25 lifts with 25, 0, 1 and 24 with 24, 25, 0
        due("of 28, one is left", last.tryBar(28), Dues.NONE);
        due("of 26, one is left", last.catches(26), 2);
    }

    private static void tryNone() {
        DUES.sentence("TRY .. NONE: none parts them");
        BoxedHeirs x = new BoxedHeirs();
        due("of 2", x.tryBar(2), Dues.NONE);
        due("of 3", x.tryBar(3), Dues.NONE);
        x.see(3, false);
        due("of 4, one is left", x.tryBar(4), Dues.NONE);
        x.see(3, true);
        due("of 4, none is left", x.tryBar(4), Dues.NONE);
        due("of 30, none is left", x.tryBar(30), Dues.NONE);
        due("of 3 still, which has no bar 3", x.tryBar(3), Dues.NONE);
    }

    private static void tryBar() {
        DUES.sentence("TRY for a TUNE of B BARS (2 .. 30); NONE. OUTSIDE");
        BoxedHeirs x = new BoxedHeirs();
        due("tryBar(1)", x.tryBar(1), Dues.OUTSIDE);
        due("tryBar(2)", x.tryBar(2), Dues.NONE);
        due("tryBar(30)", x.tryBar(30), 0);
        due("tryBar(31)", x.tryBar(31), Dues.OUTSIDE);
        due("tryBar(-1)", x.tryBar(-1), Dues.OUTSIDE);
    }

    private static void bookAtMost() {
        DUES.sentence("THE BOOK (15 at most); FULL (15)");
        BoxedHeirs x = Dues.duchyOf("d1;b5 1 1 1;b6 1 1 1;");
        for (int i = 1; i <= 15; i++) {
            due("write, time " + i, x.write(i % 2, 0), i);
        }
        due("write, a sixteenth", x.write(0, 3), Dues.FULL);
        due("entries", x.told(12), 15);
        due("the sixteenth is not judged", x.judge(), Dues.NONE);
        due("tear()", x.tear(), 15);
        due("write, torn", x.write(0, 3), 1);
    }

    private static void write() {
        DUES.sentence("An entry behind THE BOOK (0 .. 59): how many. UNKNOWN, OUTSIDE");
        BoxedHeirs x = Dues.duchyOf("d1;b60 1 1 1;b2 1 1 1;");
        due("write(0, -1)", x.write(0, -1), Dues.OUTSIDE);
        due("write(0, 60)", x.write(0, 60), Dues.OUTSIDE);
        due("write(2, 0)", x.write(2, 0), Dues.UNKNOWN);
        due("write(-1, 0)", x.write(-1, 0), Dues.UNKNOWN);
        due("write(0, 0)", x.write(0, 0), 1);
        due("write(1, 59), a bar that its tune has not", x.write(1, 59), 2);
        due("judge()", x.judge(), 1);
        due("write(0, 0) without a duchy", new BoxedHeirs().write(0, 0), Dues.UNKNOWN);
        BoxedHeirs last = Dues.duchyOf("d1;b60 1 1 1;");
        last.wind(0, 59);
        last.write(0, 59);
        due("at bar 59", last.judge(), Dues.NONE);
    }

    private static void wrong() {
        DUES.sentence("WRONG: the first that is otherwise now; NONE");
        for (int wrong = 0; wrong < 15; wrong++) {
            BoxedHeirs x = Dues.duchyOf("d1;b60 1 1 1;");
            for (int i = 0; i < 15; i++) {
                x.write(0, i >= wrong ? 1 : 0);
            }
            due("judge() with the first wrong at " + wrong, x.judge(), wrong);
        }
    }

    private static void tear() {
        DUES.sentence("Nothing SEEN, THE BOOK is empty: how much both had");
        BoxedHeirs x = Dues.duchyOf("d1;b60 1 1 1;");
        due("tear() of nothing", x.tear(), 0);
        for (int i = 0; i < 6; i++) {
            x.see(i, false);
        }
        for (int i = 0; i < 15; i++) {
            x.write(0, 5);
        }
        due("tear() of all that can be", x.tear(), 21);
        due("seen", x.told(11), 0);
        due("entries", x.told(12), 0);
        due("catches(9)", x.catches(9), 511);
        due("judge()", x.judge(), Dues.NONE);
        due("tear() again", x.tear(), 0);
        for (int i = 0; i < 6; i++) {
            x.see(0, true);
        }
        x.tear();
        x.see(0, false);
        due("what lifted ahead is forgotten", x.catches(9), 511 - 7);
        due("tear() without a duchy", new BoxedHeirs().tear(), 0);
    }

    private static void judge() {
        DUES.sentence("judge(): WRONG; NONE");
        BoxedHeirs x = Dues.duchyOf("d1;b3 1 1 1;b4 1 1 1;");
        due("no book", x.judge(), Dues.NONE);
        x.write(0, 2);
        x.write(1, 2);
        due("both otherwise", x.judge(), 0);
        x.wind(0, 2);
        due("one otherwise", x.judge(), 1);
        x.wind(1, 2);
        due("none otherwise", x.judge(), Dues.NONE);
        x.bar(1);
        due("both otherwise again", x.judge(), 0);
        x.undo();
        due("undone", x.judge(), Dues.NONE);
        due("without a duchy", new BoxedHeirs().judge(), Dues.NONE);
    }

    private static void seedAtFirst() {
        DUES.sentence("THE SEED (0 at first: each DRAW it becomes it times 1103515245 and 12345 ..)");
        BoxedHeirs x = Dues.duchyOf("d9;b60 59 9 3;");
        // The first draw makes 12345, of which the draw of 6 is 0; the next one is for the box.
        x.drift(1);
        due("damp", x.told(8), 1);
        due("two draws from 0", x.seed(0), 1406932606);
    }

    private static void seedLeftOver() {
        DUES.sentence(".. left over by 2 to the 31; the DRAW of n is it / 65536, left over by n");
        BoxedHeirs x = Dues.duchyOf("d9;b60 59 9 3;");
        x.seed(2147483647);
        x.drift(1);
        due("one draw from the greatest", x.seed(2147483646), 1043980748);
        x.drift(1);
        due("one draw from the next to it", x.seed(1), 2087949151);
        x.drift(1);
        due("a draw from 1, on 2, without regents", x.seed(0), 1103527590);
        BoxedHeirs seven = Dues.duchyOf("d9;" + "b60 59 9 3;".repeat(7));
        seven.drift(1);
        due("a draw of 7", seven.told(8), 64);
    }

    private static void drawsOnlyWithBoxes() {
        DUES.sentence("n BARS: ahead of each, if there are BOXES, a DRAW of 6");
        BoxedHeirs x = Dues.duchyOf("d9;r5;");
        x.seed(9);
        due("drift(60) without boxes", x.drift(60), 0);
        due("bars", x.told(4), 60);
        due("the seed", x.seed(0), 9);
        due("nobody sits", x.regent(0, 1), Dues.NONE);
    }

    private static void drawOfDamp() {
        DUES.sentence("on 0 a DRAW of BOXES is DAMP, if it was not, else dry");
        BoxedHeirs x = Dues.duchyOf("d9;b60 59 9 3;b60 59 9 3;");
        x.seed(9);
        x.drift(1);
        due("damp", x.told(8), 2);
        x.seed(9);
        x.drift(1);
        due("dry", x.told(8), 0);
    }

    private static void drawOfPush() {
        DUES.sentence("on 1 a DRAW of BOXES is PUSHED, if it is UP");
        BoxedHeirs x = Dues.duchyOf("d9;b60 1 9 3;b60 1 9 3;b60 1 9 3;i0 2;i0 1;");
        x.bar(1);
        // From 5 the draw of 3 is box 0, and all within go down with it.
        x.seed(5);
        due("drift(1)", x.drift(1), 0);
        due("who sways", x.told(6), 0);
        x.seed(5);
        due("drift(1), down already", x.drift(1), 0);
        due("it is drawn all the same", x.seed(0), 554244747);
        due("no thud by it", x.told(10), 0);
        BoxedHeirs down = Dues.duchyOf("d9;b60 59 9 3;b60 1 9 3;");
        down.bar(1);
        // From 10 the draw of 2 is box 0, which is down.
        down.seed(10);
        due("drift(1), the other one is up", down.drift(1), 1);
        due("two draws", down.seed(0), 1849040536);
    }

    private static void drawOfSeats() {
        DUES.sentence("on 2, if there are REGENTS, a DRAW of these SITS on a DRAW of BOXES");
        BoxedHeirs x = Dues.duchyOf("d9;b60 59 9 3;b60 59 9 3;r1;r2;r3;");
        x.seed(1);
        x.drift(1);
        due("the regent who was drawn first", x.regent(1, 1), 1);
        due("another", x.regent(0, 1), Dues.NONE);
        due("the last", x.regent(2, 1), Dues.NONE);
        due("three draws", x.seed(1), 662824084);
        x.drift(1);
        due("he sits there, and stays", x.regent(1, 1), 1);
        due("three draws again", x.seed(1), 662824084);
        x.sit(1, 0);
        x.drift(1);
        due("from where he is", x.regent(1, 1), 1);
        BoxedHeirs none = Dues.duchyOf("d9;b60 59 9 3;b60 59 9 3;");
        none.seed(1);
        none.drift(1);
        due("without regents one draw alone", none.seed(0), 1103527590);
    }

    private static void drawOfOil() {
        DUES.sentence("on 3 a DRAW of BOXES is OILED");
        BoxedHeirs x = Dues.duchyOf("d1;b60 59 9 3;b60 59 9 3;");
        x.bar(30);
        x.seed(12);
        x.drift(1);
        due("oiled, then a bar's rust", x.box(1, 7), 1);
        due("the other", x.box(0, 7), 20);
        due("two draws", x.seed(12), 1937462122);
    }

    private static void drawsOfNothing() {
        DUES.sentence("(on 4, 5 nothing)");
        int[] seeds = {7, 3};
        int[] behind = {1282168116, 1163074432};
        for (int i = 0; i < 2; i++) {
            BoxedHeirs x = Dues.duchyOf("d1;b60 1 9 3;b60 1 9 3;r4;");
            x.bar(4);
            x.seed(seeds[i]);
            due("drift(1)", x.drift(1), 2);
            due("damp", x.told(8), 0);
            due("seat", x.regent(0, 1), Dues.NONE);
            due("rust", x.box(0, 7) * 100 + x.box(1, 7), 505);
            due("one draw", x.seed(0), behind[i]);
        }
    }

    private static void drawsAheadOfEachBar() {
        DUES.sentence("n BARS: ahead of each");
        BoxedHeirs damp = Dues.duchyOf("d1;b60 1 9 3;");
        damp.seed(9);
        due("drift(1)", damp.drift(1), 1);
        due("damp ahead of the bar: it sways for twice as many", damp.box(0, 6), 18);
        BoxedHeirs held = Dues.duchyOf("d1;b60 59 9 3;b60 1 9 3;r9;");
        held.seed(1);
        due("he sits ahead of the bar: it is held", held.drift(1), 0);
        due("thuds", held.told(10), 1);
        BoxedHeirs oiled = Dues.duchyOf("d1;b60 1 2 1;");
        oiled.bar(1);
        oiled.bar(59);
        due("rusty by", oiled.box(0, 7), 20);
        oiled.push(0);
        oiled.seed(11);
        due("oiled ahead of the bar: it comes up", oiled.drift(1), 1);
        BoxedHeirs twice = Dues.duchyOf("d1;b60 59 9 3;b60 59 9 3;r9;");
        // From 7 the first draw of 6 is 4, nothing; the second is 2: the regent, and a box by the fourth draw of all.
        twice.seed(7);
        twice.drift(2);
        due("he sits by the draws ahead of the second bar", twice.regent(0, 1), 0);
        due("four draws for two bars", twice.seed(0), 1486001571);
    }

    private static void undoneAtMost() {
        DUES.sentence("UNDONE: .. (16 at most are kept, the oldest are lost)");
        for (int done = 14; done <= 34; done++) {
            BoxedHeirs x = Dues.duchyOf("d9;b60 59 9 3;");
            for (int i = 0; i < done; i++) {
                x.wind(0, 1);
            }
            int kept = Math.min(done, 16);
            due("what can be undone of " + done, x.told(13), kept);
            for (int i = kept - 1; i >= 0; i--) {
                due("undo() of " + done, x.undo(), i);
                due("where it is, of " + done, x.box(0, 4), done - kept + i);
            }
            due("undo(), the oldest are lost, of " + done, x.undo(), Dues.NOT);
            due("where it stays, of " + done, x.box(0, 4), done - kept);
        }
    }

    private static void undoneAnew() {
        DUES.sentence("UNDONE: the latest (what is done behind an undo() is the latest then)");
        BoxedHeirs x = Dues.duchyOf("d9;b60 59 9 3;");
        for (int i = 0; i < 20; i++) {
            x.wind(0, 1);
        }
        x.undo();
        x.undo();
        x.wind(0, 40);
        due("what can be undone", x.told(13), 15);
        due("undo()", x.undo(), 14);
        due("where it is", x.box(0, 4), 18);
        due("undo() again", x.undo(), 13);
        due("where it is then", x.box(0, 4), 17);
    }

    private static void undoneOnlyWhatIsDone() {
        DUES.sentence("the latest of bar(), wind(), sit(), rise(), push(), oil(), damp(), drift() that was not refused");
        BoxedHeirs x = Dues.duchyOf("d9;b3 1 9 3;b3 2 9 3;r5;");
        x.see(1, true);
        x.write(0, 1);
        x.seed(7);
        x.tear();
        x.comes(0);
        x.order(9);
        x.parted(3, 0);
        x.hold(-1);
        x.judge();
        x.feed('d');
        due("of other calls nothing", x.told(13), 0);
        x.bar(0);
        x.wind(0, 61);
        x.sit(1, 0);
        x.rise(0);
        x.push(0);
        x.oil(2);
        x.damp(-1, true);
        x.drift(61);
        due("of refused calls nothing", x.told(13), 0);
        x.bar(1);
        x.wind(0, 3);
        x.sit(0, 1);
        x.rise(0);
        x.push(0);
        x.oil(0);
        x.damp(0, false);
        x.drift(1);
        due("of each of the eight", x.told(13), 8);
        x.undo();
        due("undo() itself is none", x.told(13), 7);
    }

    private static String lookOf(BoxedHeirs x) {
        StringBuilder look = new StringBuilder();
        for (int what = 4; what <= 10; what++) {
            look.append(x.told(what)).append(' ');
        }
        for (int b = 0; b < 2; b++) {
            for (int what = 4; what <= 7; what++) {
                look.append(x.box(b, what)).append(' ');
            }
        }
        return look.append(x.regent(0, 1)).toString();
    }

    private static void undoneIsAllOfSectionTwo() {
        DUES.sentence("UNDONE: all of section 2 is as ahead of it");
        BoxedHeirs x = Dues.duchyOf("d2;b3 1 9 3;b3 1 9 1;b2 1 3 3;r5;");
        x.sit(0, 1);
        x.bar(5);
        x.damp(1, true);
        String ahead = lookOf(x);
        x.bar(400);
        x.undo();
        due("bar(400)", lookOf(x).equals(ahead) ? 1 : 0, 1);
        x.wind(1, 60);
        x.undo();
        due("wind(1, 60)", lookOf(x).equals(ahead) ? 1 : 0, 1);
        x.sit(0, 0);
        x.undo();
        due("sit(0, 0)", lookOf(x).equals(ahead) ? 1 : 0, 1);
        x.rise(0);
        x.undo();
        due("rise(0)", lookOf(x).equals(ahead) ? 1 : 0, 1);
        x.push(0);
        x.undo();
        due("push(0)", lookOf(x).equals(ahead) ? 1 : 0, 1);
        x.oil(0);
        x.undo();
        due("oil(0)", lookOf(x).equals(ahead) ? 1 : 0, 1);
        x.damp(1, false);
        x.undo();
        due("damp(1, false)", lookOf(x).equals(ahead) ? 1 : 0, 1);
        x.drift(60);
        x.undo();
        due("drift(60)", lookOf(x).equals(ahead) ? 1 : 0, 1);
        BoxedHeirs nods = Dues.duchyOf("d2;b3 1 9 3;b3 1 9 3;");
        nods.bar(1);
        due("nods", nods.told(9), 1);
        nods.undo();
        due("nods undone", nods.told(9), 0);
    }

    private static void seedStays() {
        DUES.sentence("UNDONE: .. THE SEED stays");
        BoxedHeirs x = Dues.duchyOf("d9;b60 59 9 3;");
        x.drift(1);
        x.undo();
        due("damp no more", x.told(8), 0);
        due("the seed of the two draws", x.seed(31), 1406932606);
        x.bar(1);
        x.undo();
        due("the seed that was set", x.seed(0), 31);
    }

    private static void imagesKeep() {
        DUES.sentence("IMAGES 0, 1 keep all of section 2, THE SEED");
        BoxedHeirs x = Dues.duchyOf("d2;b3 1 9 3;b3 1 9 1;r5;");
        x.sit(0, 1);
        x.bar(5);
        x.damp(1, true);
        x.seed(31);
        String first = lookOf(x);
        x.keep(0);
        x.rise(0);
        x.bar(7);
        x.seed(32);
        String second = lookOf(x);
        x.keep(1);
        due("they are not alike", first.equals(second) ? 1 : 0, 0);
        x.drift(60);
        x.see(1, true);
        x.write(0, 0);
        x.goBack(0);
        due("image 0", lookOf(x).equals(first) ? 1 : 0, 1);
        due("its seed", x.seed(5), 31);
        x.goBack(1);
        due("image 1", lookOf(x).equals(second) ? 1 : 0, 1);
        due("its seed", x.seed(5), 32);
        x.bar(1);
        x.goBack(0);
        due("image 0 once more", lookOf(x).equals(first) ? 1 : 0, 1);
        due("its seed once more", x.seed(5), 31);
        due("what is seen is not in them", x.told(11), 1);
        due("the book is not in them", x.told(12), 1);
    }

    private static void seed() {
        DUES.sentence("THE SEED becomes v (0 .. 2147483647): what it was. OUTSIDE");
        BoxedHeirs x = new BoxedHeirs();
        due("seed(2147483647)", x.seed(2147483647), 0);
        due("seed(-1)", x.seed(-1), Dues.OUTSIDE);
        due("seed(-2147483648)", x.seed(-2147483648), Dues.OUTSIDE);
        due("seed(0)", x.seed(0), 2147483647);
        due("seed(1)", x.seed(1), 0);
    }

    private static void keep() {
        DUES.sentence("IMAGE i becomes what is so (nothing can be undone then): 1. UNKNOWN");
        BoxedHeirs x = Dues.duchyOf("d2;b9 1 9 3;");
        x.bar(1);
        due("keep(-1)", x.keep(-1), Dues.UNKNOWN);
        due("keep(2)", x.keep(2), Dues.UNKNOWN);
        due("what can be undone", x.told(13), 1);
        due("keep(0)", x.keep(0), 1);
        due("what can be undone", x.told(13), 0);
        due("undo()", x.undo(), Dues.NOT);
        x.bar(1);
        due("keep(0), over it", x.keep(0), 1);
        x.bar(1);
        due("keep(1)", x.keep(1), 1);
        due("undo()", x.undo(), Dues.NOT);
        x.goBack(0);
        due("bars of image 0", x.told(4), 2);
        x.goBack(1);
        due("bars of image 1", x.told(4), 3);
        for (int i = 0; i < 17; i++) {
            x.wind(0, 1);
        }
        x.keep(1);
        due("undo(), though 16 were kept", x.undo(), Dues.NOT);
        x.wind(0, 1);
        due("undo() of what was done since", x.undo(), 0);
        due("where it is", x.box(0, 4), 20 % 9);
    }

    private static void goBack() {
        DUES.sentence("What is so becomes IMAGE i (nothing can be undone then): 1. UNKNOWN, NOT: it was not kept");
        BoxedHeirs x = Dues.duchyOf("d2;b9 1 9 3;");
        due("goBack(0)", x.goBack(0), Dues.NOT);
        due("goBack(1)", x.goBack(1), Dues.NOT);
        due("goBack(2)", x.goBack(2), Dues.UNKNOWN);
        due("goBack(-1)", x.goBack(-1), Dues.UNKNOWN);
        x.keep(1);
        due("goBack(0), the other was kept", x.goBack(0), Dues.NOT);
        x.bar(3);
        due("what can be undone", x.told(13), 1);
        due("goBack(1)", x.goBack(1), 1);
        due("bars", x.told(4), 0);
        due("what can be undone", x.told(13), 0);
        due("undo()", x.undo(), Dues.NOT);
        due("goBack(1) again", x.goBack(1), 1);
        Dues.feedAll(x, "d2;b9 1 9 3;");
        x.duchy();
        due("goBack(1) in a new duchy", x.goBack(1), Dues.NOT);
    }

    private static void imagesOfNoDuchy() {
        DUES.sentence("keep(), goBack() are refused for UNKNOWN, NOT alone (not for want of a DUCHY)");
        BoxedHeirs x = new BoxedHeirs();
        x.seed(8);
        due("keep(0)", x.keep(0), 1);
        x.seed(9);
        due("goBack(0)", x.goBack(0), 1);
        due("the seed", x.seed(0), 8);
        due("goBack(1)", x.goBack(1), Dues.NOT);
    }
}
