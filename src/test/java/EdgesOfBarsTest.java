/** The edges that section 2 names, and promises 5 to 16: boxes, bars, regents; a sentence of the document each. */
public final class EdgesOfBarsTest {
    /** Each of seven boxes is in the one told ahead of it, and all have their catch at the next bar. */
    private static final String NEST = "d99;b2 1 20 4;b2 1 20 4;b2 1 20 4;b2 1 20 4;b2 1 20 4;b2 1 20 4;b2 1 20 4;"
        + "i0 1;i1 2;i2 3;i3 4;i4 5;i5 6;";
    private static final Dues DUES = new Dues();

    public static void main(String[] args) {
        atFirst();
        rusty();
        forceByHalfTheRust();
        forceByAllTheRust();
        forceByDamp();
        forceByNoRust();
        forceByNests();
        anyNumberOnOne();
        held();
        heldByOneOrMore();
        behindTheLast();
        catchAndDown();
        comesUpUnlessHeld();
        comesUpByForce();
        comesUpWithinAnother();
        thudsAtMost();
        swaysForForce();
        swaysLess();
        boxByBox();
        barsAreCounted();
        rustByBars();
        nods();
        nodsAtMost();
        wound();
        sits();
        pushed();
        oiledAndDamp();
        told();
        toldOfBoxes();
        toldOfRegents();
        largestDuchy();
        bar();
        barIsFull();
        wind();
        sit();
        rise();
        push();
        oil();
        damp();
        drift();
        undo();
        DUES.end();
    }

    private static void due(String call, long got, long want) {
        DUES.due(call, got, want);
    }

    private static void atFirst() {
        DUES.sentence("A BOX is at a BAR of its TUNE (0 at first); its heir is DOWN (at first) or UP, SWAYS for so many BARS yet "
            + "(0 at first); it is RUSTY by 0 (at first) to 20, DAMP or not (not at first)");
        BoxedHeirs x = Dues.duchyOf("d1;b2 0 1 0;b60 59 20 4;");
        for (int b = 0; b < 2; b++) {
            for (int what = 4; what <= 7; what++) {
                due("box(" + b + ", " + what + ")", x.box(b, what), 0);
            }
        }
        due("told(8)", x.told(8), 0);
        BoxedHeirs seven = Dues.duchyOf(NEST);
        for (int b = 0; b < 7; b++) {
            for (int what = 4; what <= 7; what++) {
                due("box(" + b + ", " + what + ") of seven", seven.box(b, what), 0);
            }
        }
        due("at its catch from the first, it is down all the same", x.told(5), 0);
        due("and that is no thud", x.told(10), 0);
    }

    private static void rusty() {
        DUES.sentence("it is RUSTY by 0 (at first) to 20; each BOX is RUSTY by 1 more (20 at most)");
        BoxedHeirs x = Dues.duchyOf("d1;b2 0 1 0;b9 0 1 0;");
        for (int bars = 1; bars <= 25; bars++) {
            x.bar(1);
            due("box(0, 7) behind " + bars, x.box(0, 7), Math.min(bars, 20));
            due("box(1, 7) behind " + bars, x.box(1, 7), Math.min(bars, 20));
        }
        x.bar(400);
        due("box(0, 7) behind many", x.box(0, 7), 20);
        x.oil(0);
        x.bar(20);
        due("box(0, 7) behind 20 more", x.box(0, 7), 20);
        due("box(1, 7) behind 20 more", x.box(1, 7), 20);
    }

    private static void force(String box, boolean isDamp, int... wants) {
        BoxedHeirs x = Dues.duchyOf("d1;" + box);
        int last = x.told(1) - 1;
        x.damp(last, isDamp);
        for (int rust = 0; rust < wants.length; rust++) {
            due("force of [" + box + "], rusty by " + rust + (isDamp ? ", damp" : ""), x.box(last, 8), wants[rust]);
            x.bar(1);
        }
    }

    private static void forceByHalfTheRust() {
        DUES.sentence("FORCE: SPRING less RUST by KIND: 0 half of it (cut); 0 at least");
        force("b60 59 3 0;", false, 3, 3, 2, 2, 1, 1, 0, 0, 0, 0);
        force("b60 59 3 0;", true, 3, 3, 2, 2, 1, 1, 0, 0, 0, 0);
        force("b60 59 20 0;", false, 20, 20, 19, 19, 18, 18, 17, 17, 16, 16, 15, 15, 14, 14, 13, 13, 12, 12, 11, 11, 10, 10);
        force("b60 59 10 0;", false, 10, 10, 9, 9, 8, 8, 7, 7, 6, 6, 5, 5, 4, 4, 3, 3, 2, 2, 1, 1, 0, 0);
    }

    private static void forceByAllTheRust() {
        DUES.sentence("1 all of it; 0 at least");
        force("b60 59 3 1;", false, 3, 2, 1, 0, 0, 0);
        force("b60 59 3 1;", true, 3, 2, 1, 0, 0, 0);
        force("b60 59 20 1;", false, 20, 19, 18, 17, 16, 15, 14, 13, 12, 11, 10, 9, 8, 7, 6, 5, 4, 3, 2, 1, 0, 0);
    }

    private static void forceByDamp() {
        DUES.sentence("2 half of it (cut), and 2 if DAMP; 0 at least");
        force("b60 59 4 2;", false, 4, 4, 3, 3, 2, 2, 1, 1, 0, 0, 0);
        force("b60 59 4 2;", true, 2, 2, 1, 1, 0, 0, 0);
        force("b60 59 3 2;", true, 1, 1, 0, 0, 0);
        force("b60 59 2 2;", true, 0, 0, 0);
        force("b60 59 1 2;", true, 0, 0, 0);
    }

    private static void forceByNoRust() {
        DUES.sentence("3 none of it");
        force("b60 59 1 3;", false, 1, 1, 1, 1, 1, 1, 1, 1, 1, 1, 1, 1, 1, 1, 1, 1, 1, 1, 1, 1, 1, 1);
        force("b60 59 1 3;", true, 1, 1, 1, 1);
        force("b60 59 9 0;b60 59 5 3;i0 1;", false, 5, 5, 5, 5);
    }

    private static void forceByNests() {
        DUES.sentence("4 half of it (cut), but it has 3 more for each BOX in which it is, one within the other; 0 at least");
        force("b60 59 2 4;", false, 2, 2, 1, 1, 0, 0, 0);
        force("b60 59 2 4;", true, 2, 2, 1, 1, 0, 0, 0);
        force("b60 59 9 0;b60 59 1 4;i0 1;", false, 4, 4, 3, 3, 2, 2, 1, 1, 0, 0, 0, 0, 0, 0, 0, 0, 0, 0, 0, 0, 0, 0);
        force("b60 59 9 0;b60 59 9 0;b60 59 1 4;i0 1;i1 2;", false, 7, 7, 6, 6, 5, 5, 4, 4, 3, 3, 2, 2, 1, 1, 0, 0, 0);
        force("b60 59 9 0;b60 59 9 0;b60 59 1 4;i0 1;i0 2;", false, 4, 4, 3, 3);
        BoxedHeirs x = Dues.duchyOf(NEST);
        for (int b = 0; b < 7; b++) {
            due("force of " + b + " in a nest of seven", x.box(b, 8), 20 + 3 * b);
        }
    }

    private static void anyNumberOnOne() {
        DUES.sentence("A REGENT sits on a BOX (any number on one), or on none (at first)");
        BoxedHeirs x = Dues.duchyOf("d1;b9 0 1 0;b9 0 1 0;r30;r30;r30;r30;r30;r30;");
        due("weights at first", x.box(1, 12), 0);
        for (int r = 0; r < 6; r++) {
            due("regent(" + r + ", 1) at first", x.regent(r, 1), Dues.NONE);
        }
        for (int r = 0; r < 6; r++) {
            x.sit(r, 1);
            due("weights, " + (r + 1) + " on one", x.box(1, 12), 30 * (r + 1));
        }
        due("weights on the other", x.box(0, 12), 0);
    }

    private static void held() {
        DUES.sentence("HELD: WEIGHTS on a BOX together are FORCE or more");
        BoxedHeirs x = Dues.duchyOf("d1;b60 59 7 3;b60 59 7 3;b60 59 7 3;r6;r7;r8;r1;r30;");
        x.sit(0, 0);
        due("one less than its force", x.told(7), 0);
        x.sit(1, 1);
        due("as much as its force", x.told(7), 2);
        x.sit(2, 2);
        due("more than its force", x.told(7), 6);
        x.sit(3, 0);
        due("as much together", x.told(7), 7);
        x.rise(0);
        due("less again", x.told(7), 6);
        BoxedHeirs rust = Dues.duchyOf("d1;b60 59 7 1;r6;");
        rust.sit(0, 0);
        due("ahead of rust", rust.told(7), 0);
        rust.bar(1);
        due("by rust", rust.told(7), 1);
    }

    private static void heldByOneOrMore() {
        DUES.sentence("HELD: .. and 1 or more");
        BoxedHeirs x = Dues.duchyOf("d1;b60 59 1 1;r1;");
        x.bar(1);
        due("no force is left", x.box(0, 8), 0);
        due("nobody holds it", x.told(7), 0);
        x.sit(0, 0);
        due("1 holds it", x.told(7), 1);
    }

    private static void behindTheLast() {
        DUES.sentence("TURNED by a BAR: it goes to the next BAR (behind the last 0)");
        BoxedHeirs x = Dues.duchyOf("d9;b2 0 1 0;b60 0 1 0;b7 0 1 0;");
        for (int i = 1; i <= 125; i++) {
            x.bar(1);
            due("a tune of 2 behind " + i, x.box(0, 4), i % 2);
            due("a tune of 60 behind " + i, x.box(1, 4), i % 60);
        }
        due("wind over the end", x.wind(2, 60), (125 + 60) % 7);
        due("wind to the last", x.wind(2, 3), 6);
        due("wind to 0", x.wind(2, 1), 0);
    }

    private static void catchAndDown() {
        DUES.sentence("If that is CATCH, and it is DOWN: it comes UP ..; else it THUDS (UP, it does neither)");
        BoxedHeirs x = Dues.duchyOf("d99;b3 0 9 3;b3 2 9 3;");
        due("bar(1): ahead of both catches", x.bar(1), 0);
        due("bar(1): at the last bar", x.bar(1), 1);
        due("the one", x.told(5), 2);
        due("bar(1): at bar 0, behind the last", x.bar(1), 2);
        due("both", x.told(5), 3);
        due("sways", x.box(0, 6), 9);
        x.bar(3);
        due("at its catch, up: it sways on", x.box(0, 6), 6);
        due("no thuds", x.told(10), 0);
        due("no nods", x.told(9), 0);
    }

    private static void comesUpUnlessHeld() {
        DUES.sentence("it comes UP, if it is not HELD; else it THUDS");
        BoxedHeirs x = Dues.duchyOf("d99;b2 1 5 3;b2 1 5 3;b2 1 5 3;r4;r5;r6;");
        x.sit(0, 0);
        x.sit(1, 1);
        x.sit(2, 2);
        due("bar(1)", x.bar(1), 1);
        due("the one on whom too little sits", x.told(5), 1);
        due("thuds", x.told(10), 2);
        x.rise(1);
        due("bar(2): he rose", x.bar(2), 2);
        due("thuds of the other", x.told(10), 3);
    }

    private static void comesUpByForce() {
        DUES.sentence("it comes UP, if .. FORCE is 1 or more; else it THUDS");
        BoxedHeirs x = Dues.duchyOf("d2;b4 2 1 1;b4 3 1 1;b4 3 2 1;");
        due("bar(2): rust comes behind the bar", x.bar(2), 1);
        due("force is gone then", x.box(0, 8), 0);
        due("bar(1): force 0, force 1", x.bar(1), 2);
        due("who", x.told(5), 5);
        due("thuds", x.told(10), 1);
    }

    private static void comesUpWithinAnother() {
        DUES.sentence("it comes UP, if .. the BOX in which it is, if any, is UP; else it THUDS");
        BoxedHeirs x = Dues.duchyOf("d99;b4 2 5 3;b2 1 5 3;b4 2 5 3;i0 1;i1 2;");
        due("bar(1): the outer is down", x.bar(1), 0);
        due("thuds", x.told(10), 1);
        due("bar(1): up, but not he in whom the innermost is", x.bar(1), 1);
        due("who", x.told(5), 1);
        due("thuds of the innermost", x.told(10), 2);
        due("bar(1): the next within", x.bar(1), 2);
        due("bar(3): the innermost", x.bar(3), 3);
        due("no thud more", x.told(10), 2);
        due("all of a nest in one bar", Dues.duchyOf(NEST).bar(1), 7);
    }

    /** 512 calls can't reach it, so the class alone is asked here, by more calls than it is promised for. */
    private static void thudsAtMost() {
        DUES.sentence("it THUDS (counted, 999999 at most)");
        BoxedHeirs x = Dues.duchyOf("d99;b2 1 1 3;b2 1 1 3;b2 1 1 3;b2 1 1 3;b2 1 1 3;b2 1 1 3;b2 1 1 3;r1;r1;r1;r1;r1;r1;");
        x.bar(1);
        for (int b = 0; b < 7; b++) {
            x.push(b);
        }
        for (int r = 0; r < 6; r++) {
            x.sit(r, r);
        }
        int thuds = 0;
        for (int i = 0; i < 40000 && thuds <= 999999; i++) {
            x.wind(0, 60);
            thuds += 30;
            due("thuds of many windings", x.told(10), Math.min(thuds, 999999));
        }
        x.wind(1, 2);
        due("thuds once more", x.told(10), 999999);
        x.bar(400);
        due("thuds by many bars", x.told(10), 999999);
    }

    private static void swaysForForce() {
        DUES.sentence("UP, it SWAYS for FORCE BARS (twice as many if DAMP)");
        BoxedHeirs x = Dues.duchyOf(NEST);
        x.damp(6, true);
        x.damp(0, true);
        x.bar(1);
        due("the outermost, damp", x.box(0, 6), 40);
        due("the next", x.box(1, 6), 23);
        due("the innermost, damp", x.box(6, 6), 76);
        BoxedHeirs one = Dues.duchyOf("d9;b2 1 1 3;b2 1 1 3;b2 1 3 2;");
        one.damp(1, true);
        one.damp(2, true);
        one.bar(1);
        due("force 1", one.box(0, 6), 1);
        due("force 1, damp", one.box(1, 6), 2);
        due("force 1 by damp, twice", one.box(2, 6), 2);
        one.damp(1, false);
        one.damp(0, true);
        due("dry again, it sways as it did", one.box(1, 6), 2);
        due("damp now, it sways as it did", one.box(0, 6), 1);
    }

    private static void swaysLess() {
        DUES.sentence("Else it SWAYS a BAR less (0 at least)");
        BoxedHeirs x = Dues.duchyOf("d99;b2 1 3 3;b60 59 3 3;");
        x.bar(1);
        for (int i = 1; i <= 6; i++) {
            x.bar(1);
            due("behind " + i, x.box(0, 6), Math.max(3 - i, 0));
            due("who sways", x.told(6), i < 3 ? 1 : 0);
            due("it is up all the same", x.told(5), 1);
            due("he who is down", x.box(1, 6), 0);
        }
    }

    private static void boxByBox() {
        DUES.sentence("A BAR: BOX by BOX each is TURNED by a BAR");
        BoxedHeirs x = Dues.duchyOf("d99;b5 1 9 3;b5 1 9 3;b5 1 9 3;i0 2;");
        due("the outer is turned ahead of the inner", x.bar(1), 3);
        for (int b = 0; b < 3; b++) {
            due("box " + b, x.box(b, 4), 1);
        }
    }

    private static void barsAreCounted() {
        DUES.sentence("BARS are counted (from 0, one more then)");
        BoxedHeirs x = Dues.duchyOf("d99;");
        due("at first", x.told(4), 0);
        x.bar(1);
        due("one", x.told(4), 1);
        x.bar(400);
        due("400 more", x.told(4), 401);
        x.drift(60);
        due("60 more", x.told(4), 461);
    }

    private static void rustByBars() {
        DUES.sentence("if R goes into them without rest, each BOX is RUSTY by 1 more");
        for (int each : new int[] {1, 2, 98, 99}) {
            BoxedHeirs x = Dues.duchyOf("d" + each + ";b2 0 1 0;b2 0 1 0;");
            if (each > 1) {
                x.bar(each - 1);
            }
            due("a bar too early, R " + each, x.box(0, 7), 0);
            x.bar(1);
            due("just then, R " + each, x.box(0, 7), 1);
            x.oil(1);
            x.bar(each);
            due("again, R " + each, x.box(0, 7), 2);
            due("the other one, R " + each, x.box(1, 7), 1);
        }
    }

    private static void nods() {
        DUES.sentence("NODS: how many pairs of BOXES came UP in one and the same BAR so far");
        String box = "b2 1 9 3;";
        for (int many = 1; many <= 7; many++) {
            BoxedHeirs x = Dues.duchyOf("d99;" + box.repeat(many) + (many < 7 ? "b2 0 9 3;" : ""));
            x.bar(1);
            due("nods of " + many, x.told(9), many * (many - 1) / 2);
            x.bar(1);
            due("one in another bar is in no pair with them, " + many, x.told(9), many * (many - 1) / 2);
        }
    }

    /** 512 calls can't reach it, so the class alone is asked here, by more calls than it is promised for. */
    private static void nodsAtMost() {
        DUES.sentence("NODS .. (999999 at most)");
        BoxedHeirs x = Dues.duchyOf(NEST.replace("20 4;", "20 3;"));
        int nods = 0;
        for (int i = 0; i < 48000 && nods <= 999999; i++) {
            due("all come up", x.bar(2), 7);
            nods += 21;
            due("nods", x.told(9), Math.min(nods, 999999));
            due("all go down", x.push(0), 7);
        }
        x.bar(2);
        due("nods once more", x.told(9), 999999);
    }

    private static void wound() {
        DUES.sentence("WOUND: one BOX alone is TURNED by so many BARS (no BAR goes by)");
        BoxedHeirs x = Dues.duchyOf("d1;b2 1 9 1;b2 1 9 1;b3 1 9 1;i0 2;");
        x.wind(2, 60);
        due("it alone", x.box(2, 4), 0);
        due("it thuds", x.told(10), 20);
        x.wind(0, 1);
        x.wind(1, 1);
        due("up", x.told(5), 3);
        due("no nods", x.told(9), 0);
        due("no bars", x.told(4), 0);
        due("no rust", x.box(0, 7), 0);
        due("the first stays where it is", x.box(0, 4), 1);
        due("and sways as it did", x.box(0, 6), 9);
    }

    private static void sits() {
        DUES.sentence("SITS: a REGENT comes on a BOX (from where he is); RISES");
        BoxedHeirs x = Dues.duchyOf("d1;b2 1 9 1;b2 1 9 1;r9;");
        x.sit(0, 0);
        due("on the one", x.told(7), 1);
        x.sit(0, 1);
        due("on the other, and no more on the one", x.told(7), 2);
        x.rise(0);
        due("on none", x.told(7), 0);
    }

    private static void pushed() {
        DUES.sentence("PUSHED: an heir that is UP is DOWN again, SWAYS no more, all in the BOX (and in these, and so on) likewise");
        for (int b = 0; b < 7; b++) {
            BoxedHeirs x = Dues.duchyOf(NEST);
            x.bar(1);
            due("push(" + b + ") of a nest", x.push(b), 7 - b);
            due("who is up yet", x.told(5), (1 << b) - 1);
            due("who sways yet", x.told(6), (1 << b) - 1);
            for (int c = 0; c < 7; c++) {
                due("for how many bars " + c + " sways yet", x.box(c, 6), c < b ? 20 + 3 * c : 0);
            }
        }
    }

    private static void oiledAndDamp() {
        DUES.sentence("OILED: RUSTY by 0. DAMP, or dry");
        BoxedHeirs x = Dues.duchyOf("d1;b60 59 9 1;b60 59 9 1;");
        x.bar(30);
        due("oil(0), as rusty as can be", x.oil(0), 20);
        due("rusty by", x.box(0, 7), 0);
        due("force", x.box(0, 8), 9);
        due("the other", x.box(1, 7), 20);
        x.damp(1, true);
        due("damp", x.told(8), 2);
        x.damp(1, false);
        due("dry", x.told(8), 0);
    }

    private static void told() {
        DUES.sentence("told(): 0 R .. 14 END (NONE). OUTSIDE");
        BoxedHeirs x = Dues.duchyOf("d7;b4 1 5 3;b6 5 5 3;r5;");
        x.sit(0, 1);
        x.bar(6);
        x.see(0, true);
        x.write(0, 0);
        x.write(0, 0);
        Dues.feedAll(x, "d1;");
        int[] wants = {7, 2, 1, 3, 6, 1, 0, 2, 0, 0, 1, 1, 2, 2, 6};
        for (int what = 0; what < wants.length; what++) {
            due("told(" + what + ")", x.told(what), wants[what]);
        }
        due("told(-1)", x.told(-1), Dues.OUTSIDE);
        due("told(15)", x.told(15), Dues.OUTSIDE);
        x.wind(0, 1);
        due("told(14), never", x.told(14), Dues.NONE);
    }

    private static void toldOfBoxes() {
        DUES.sentence("box(): 0 B .. 9 the BOX in which it is (NONE) .. 12 WEIGHTS on it. OUTSIDE");
        BoxedHeirs x = Dues.duchyOf("d2;b60 1 20 3;b60 1 19 0;b2 1 1 3;i0 1;r30;");
        x.sit(0, 2);
        x.bar(4);
        int[][] wants = {{60, 1, 20, 3, 4, 1, 17, 2, 20, -1, 0, 3, 0}, {60, 1, 19, 0, 4, 1, 16, 2, 18, 0, 1, 2, 0},
            {2, 1, 1, 3, 0, 0, 0, 2, 1, -1, 0, 4, 30}};
        for (int b = 0; b < 3; b++) {
            for (int what = 0; what < 13; what++) {
                due("box(" + b + ", " + what + ")", x.box(b, what), wants[b][what]);
            }
            due("box(" + b + ", -1)", x.box(b, -1), Dues.OUTSIDE);
            due("box(" + b + ", 13)", x.box(b, 13), Dues.OUTSIDE);
        }
    }

    private static void toldOfRegents() {
        DUES.sentence("regent(): 0 WEIGHT, 1 the BOX on which he sits (NONE). OUTSIDE");
        BoxedHeirs x = Dues.duchyOf("d2;b60 1 20 3;b60 1 20 3;r30;r29;");
        x.sit(1, 0);
        due("regent(1, 0)", x.regent(1, 0), 29);
        due("regent(1, 1)", x.regent(1, 1), 0);
        due("regent(0, 1)", x.regent(0, 1), Dues.NONE);
        due("regent(0, -1)", x.regent(0, -1), Dues.OUTSIDE);
        due("regent(0, 2)", x.regent(0, 2), Dues.OUTSIDE);
    }

    private static void largestDuchy() {
        DUES.sentence("7 BOXES at most .. 6 REGENTS at most (told of as many as can be)");
        BoxedHeirs x = Dues.duchyOf("d1;" + "b2 1 20 3;".repeat(7) + "i0 1;i1 2;i2 3;i3 4;i4 5;i5 6;r30;r21;r20;r20;r19;r1;");
        due("bar(1)", x.bar(1), 7);
        for (int r = 0; r < 6; r++) {
            due("nobody sits by rust, " + r, x.regent(r, 1), Dues.NONE);
            due("sit(" + r + ", " + (r + 1) + ")", x.sit(r, r + 1), Dues.NONE);
        }
        for (int b = 0; b < 7; b++) {
            x.damp(b, true);
            due("rust of " + b, x.box(b, 7), 1);
            due("weights on " + b, x.box(b, 12), b == 0 ? 0 : x.regent(b - 1, 0));
        }
        int[] wants = {1, 7, 6, 0, 1, 127, 127, 2 | 4 | 8 | 16, 127, 21, 0, 0, 0, 14, 1};
        for (int what = 0; what < wants.length; what++) {
            due("told(" + what + ")", x.told(what), wants[what]);
        }
        x.bar(20);
        for (int r = 0; r < 6; r++) {
            due("he sits where he sat, " + r, x.regent(r, 1), r + 1);
        }
        due("push(0)", x.push(0), 7);
        due("bar(2)", x.bar(2), 1);
        due("thuds of the six within: held, or in one who is down", x.told(10), 6);
        due("rust of the last", x.box(6, 7), 20);
        due("nobody sways by rust", x.told(6), 1);
        x.oil(6);
        due("oil(6) leaves the regents", x.regent(0, 1), 1);
    }

    private static void bar() {
        DUES.sentence("n BARS (1 .. 400): how many are UP. OUTSIDE, NOT: no DUCHY");
        BoxedHeirs x = Dues.duchyOf("d99;b2 1 9 3;b60 59 9 3;");
        due("bar(0)", x.bar(0), Dues.OUTSIDE);
        due("bar(-1)", x.bar(-1), Dues.OUTSIDE);
        due("bar(401)", x.bar(401), Dues.OUTSIDE);
        due("bar(1)", x.bar(1), 1);
        due("bar(400)", x.bar(400), 2);
        due("bars", x.told(4), 401);
        due("where the second is", x.box(1, 4), 401 % 60);
        due("bar(1) without a duchy", new BoxedHeirs().bar(1), Dues.NOT);
        due("bar(400) without a duchy", new BoxedHeirs().bar(400), Dues.NOT);
    }

    private static BoxedHeirs atBars(int bars) {
        BoxedHeirs x = Dues.duchyOf("d99;b2 1 9 3;");
        for (int left = bars; left > 0; left -= 400) {
            x.bar(Math.min(left, 400));
        }
        return x;
    }

    private static void barIsFull() {
        DUES.sentence("FULL: BARS are above 99999");
        BoxedHeirs x = atBars(99999);
        due("bars", x.told(4), 99999);
        due("bar(400) at 99999", x.bar(400), 1);
        due("bars behind it", x.told(4), 100399);
        due("bar(1) at 100399", x.bar(1), Dues.FULL);
        due("drift(1) at 100399", x.drift(1), Dues.FULL);
        due("undo()", x.undo(), 15);
        due("drift(60) at 99999", x.drift(60), x.told(5));
        due("bars behind it", x.told(4), 100059);
        due("drift(1) at 100059", x.drift(1), Dues.FULL);
        BoxedHeirs y = atBars(100000);
        due("bar(1) at 100000", y.bar(1), Dues.FULL);
        due("drift(1) at 100000", y.drift(1), Dues.FULL);
        due("bars", y.told(4), 100000);
        due("wind(0, 1) all the same", y.wind(0, 1), 1);
        due("comes(0) all the same", y.comes(0), 0);
        BoxedHeirs z = atBars(99998);
        due("bar(1) at 99998", z.bar(1), 1);
        due("bar(1) at 99999", z.bar(1), 1);
        due("bar(1) at 100000", z.bar(1), Dues.FULL);
    }

    private static void wind() {
        DUES.sentence("WOUND by n BARS (1 .. 60): the BAR where it is. UNKNOWN, OUTSIDE");
        BoxedHeirs x = Dues.duchyOf("d99;b7 1 9 3;b60 59 9 3;");
        due("wind(0, 0)", x.wind(0, 0), Dues.OUTSIDE);
        due("wind(0, -1)", x.wind(0, -1), Dues.OUTSIDE);
        due("wind(0, 61)", x.wind(0, 61), Dues.OUTSIDE);
        due("wind(0, 1)", x.wind(0, 1), 1);
        due("wind(0, 60)", x.wind(0, 60), 61 % 7);
        due("wind(1, 60)", x.wind(1, 60), 0);
        due("wind(1, 59)", x.wind(1, 59), 59);
        due("wind(2, 1)", x.wind(2, 1), Dues.UNKNOWN);
    }

    private static void sit() {
        DUES.sentence("SITS: the BOX where he was (NONE). UNKNOWN, NOT: he sits there");
        BoxedHeirs x = Dues.duchyOf("d99;b7 1 9 3;b60 59 9 3;r1;");
        due("sit(0, 0)", x.sit(0, 0), Dues.NONE);
        due("sit(0, 0) again", x.sit(0, 0), Dues.NOT);
        due("sit(0, 1)", x.sit(0, 1), 0);
        due("sit(0, 0) once more", x.sit(0, 0), 1);
        x.rise(0);
        due("sit(0, 0) from none", x.sit(0, 0), Dues.NONE);
        due("sit(1, 0)", x.sit(1, 0), Dues.UNKNOWN);
        due("sit(0, 2)", x.sit(0, 2), Dues.UNKNOWN);
        due("sit(0, -1)", x.sit(0, -1), Dues.UNKNOWN);
    }

    private static void rise() {
        DUES.sentence("RISES: the BOX where he was. UNKNOWN, NOT: he sits on none");
        BoxedHeirs x = Dues.duchyOf("d99;b7 1 9 3;r1;");
        due("rise(0) from none", x.rise(0), Dues.NOT);
        x.sit(0, 0);
        due("rise(0)", x.rise(0), 0);
        due("rise(0) again", x.rise(0), Dues.NOT);
        due("rise(1)", x.rise(1), Dues.UNKNOWN);
        due("rise(-1)", x.rise(-1), Dues.UNKNOWN);
    }

    private static void push() {
        DUES.sentence("PUSHED: how many go DOWN. UNKNOWN, NOT: it is DOWN");
        BoxedHeirs x = Dues.duchyOf("d99;b2 1 9 3;b2 1 9 3;b2 0 9 3;i0 1;i0 2;");
        due("push(0), down", x.push(0), Dues.NOT);
        x.bar(1);
        due("push(2), down within one that is up", x.push(2), Dues.NOT);
        due("push(0): he who is down within is not counted", x.push(0), 2);
        due("push(0), down again", x.push(0), Dues.NOT);
        x.bar(2);
        due("push(1), one alone", x.push(1), 1);
        due("push(1), down again", x.push(1), Dues.NOT);
        due("push(3)", x.push(3), Dues.UNKNOWN);
        due("push(-1)", x.push(-1), Dues.UNKNOWN);
    }

    private static void oil() {
        DUES.sentence("OILED: by how much it was RUSTY. UNKNOWN");
        BoxedHeirs x = Dues.duchyOf("d1;b2 1 9 3;");
        due("oil(0), not rusty", x.oil(0), 0);
        x.bar(1);
        due("oil(0)", x.oil(0), 1);
        due("oil(0) again", x.oil(0), 0);
        x.bar(400);
        due("oil(0), as rusty as can be", x.oil(0), 20);
        due("what can be undone: each of them", x.told(13), 6);
        due("oil(1)", x.oil(1), Dues.UNKNOWN);
        due("oil(-1)", x.oil(-1), Dues.UNKNOWN);
    }

    private static void damp() {
        DUES.sentence("DAMP (is), or dry: 1 it was DAMP, 0 not. UNKNOWN");
        BoxedHeirs x = Dues.duchyOf("d1;b2 1 9 3;");
        due("damp(0, false), dry", x.damp(0, false), 0);
        due("damp(0, true), dry", x.damp(0, true), 0);
        due("damp(0, true), damp", x.damp(0, true), 1);
        due("damp(0, false), damp", x.damp(0, false), 1);
        due("damp(0, false), dry again", x.damp(0, false), 0);
        due("what can be undone: each of them", x.told(13), 5);
        due("damp(1, true)", x.damp(1, true), Dues.UNKNOWN);
        due("damp(-1, true)", x.damp(-1, true), Dues.UNKNOWN);
    }

    private static void drift() {
        DUES.sentence("n BARS (1 .. 60) BY DRAWS: how many are UP. OUTSIDE, NOT: no DUCHY");
        BoxedHeirs x = Dues.duchyOf("d99;b60 1 9 3;");
        due("drift(0)", x.drift(0), Dues.OUTSIDE);
        due("drift(-1)", x.drift(-1), Dues.OUTSIDE);
        due("drift(61)", x.drift(61), Dues.OUTSIDE);
        due("bars", x.told(4), 0);
        // From 7 the draw of 6 is 4: nothing is done ahead of the bar.
        x.seed(7);
        due("drift(1)", x.drift(1), 1);
        due("bars", x.told(4), 1);
        due("drift(60)", x.drift(60), x.box(0, 5));
        due("bars", x.told(4), 61);
        due("drift(1) without a duchy", new BoxedHeirs().drift(1), Dues.NOT);
        due("drift(60) without a duchy", new BoxedHeirs().drift(60), Dues.NOT);
    }

    private static void undo() {
        DUES.sentence("The latest is undone: how many more can be. NOT: none");
        BoxedHeirs x = Dues.duchyOf("d99;b60 1 9 3;");
        due("undo() of nothing", x.undo(), Dues.NOT);
        x.bar(1);
        x.wind(0, 5);
        due("undo() of the second", x.undo(), 1);
        due("where it is", x.box(0, 4), 1);
        due("undo() of the first", x.undo(), 0);
        due("where it is", x.box(0, 4), 0);
        due("undo() of nothing more", x.undo(), Dues.NOT);
    }
}
