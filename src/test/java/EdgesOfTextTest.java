/** The edges that section 1 names, and promises 1 to 4: the text, its bounds, its faults; a sentence of the document each. */
public final class EdgesOfTextTest {
    private static final String BOX = "b2 0 1 0;";
    /** Two boxes; the next letter is letter 21. */
    private static final String TWO = "d1;" + BOX + BOX;
    /** Seven boxes; the next letter is letter 66. */
    private static final String SEVEN = "d1;" + BOX.repeat(7);
    private static final Dues DUES = new Dues();

    public static void main(String[] args) {
        letters();
        longestText();
        rustEach();
        rustFirst();
        rustOnce();
        sevenBoxes();
        tunes();
        catches();
        springs();
        kinds();
        sixNests();
        nestsToldAhead();
        nestsBelow();
        nestsOnce();
        sixRegents();
        weights();
        figures();
        wordsOfOneLetter();
        blanks();
        blanksWithinNumbers();
        otherBlanks();
        numbersSideBySide();
        firstFault();
        faultAtTheEnd();
        leastFault();
        lettersThatAreNoWords();
        anotherWordFirst();
        numbersOfFourFigures();
        boxesThatAreNot();
        tooMany();
        nestFaults();
        emptyText();
        newObject();
        feeding();
        duchyEmptiesTheText();
        duchyBeginsAnew();
        textsCountForThemselves();
        faultLeavesAllElse();
        faultOfTheLatest();
        DUES.end();
    }

    private static void due(String call, long got, long want) {
        DUES.due(call, got, want);
    }

    private static void text(String text, int answer, int letter) {
        BoxedHeirs x = new BoxedHeirs();
        Dues.feedAll(x, text);
        due("duchy() of [" + text + "]", x.duchy(), answer);
        due("fault() of [" + text + "]", x.fault(), letter);
    }

    private static void good(String text, int boxes) {
        text(text, boxes, Dues.NONE);
    }

    private static void letters() {
        DUES.sentence("One letter (a number 0 .. 255) comes behind THE TEXT: how many it has. OUTSIDE");
        BoxedHeirs x = new BoxedHeirs();
        due("feed(-1)", x.feed(-1), Dues.OUTSIDE);
        due("feed(0)", x.feed(0), 1);
        due("feed(256)", x.feed(256), Dues.OUTSIDE);
        due("feed(255)", x.feed(255), 2);
        due("feed of 'd' and 256", x.feed('d' + 256), Dues.OUTSIDE);
        due("told(3)", x.told(3), 2);
    }

    private static void longestText() {
        DUES.sentence("THE DUCHY is told in a text (240 letters at most); FULL (240)");
        BoxedHeirs x = new BoxedHeirs();
        String text = "d1;" + " ".repeat(234) + "r9;";
        for (int i = 0; i < 240; i++) {
            due("feed, letter " + i, x.feed(text.charAt(i)), i + 1);
        }
        due("feed, one more", x.feed('x'), Dues.FULL);
        due("told(3)", x.told(3), 240);
        due("duchy(): the letter too many is not read", x.duchy(), 0);
        due("told(2): the last clause is read", x.told(2), 1);
        due("feed, behind the duchy", x.feed(' '), 1);
        text("d1;" + " ".repeat(235) + "r9", -11, 240);
        text("d1;" + " ".repeat(236) + "x", -11, 239);
    }

    private static void rustEach() {
        DUES.sentence("'d' R ';' (RUST comes each R BARS, 1 .. 99)");
        text("d0;", -12, 1);
        text("d100;", -12, 1);
        text("d999;", -12, 1);
        due("R of d1;", Dues.duchyOf("d1;").told(0), 1);
        due("R of d99;", Dues.duchyOf("d99;").told(0), 99);
        good("d1;", 0);
        good("d99;", 0);
    }

    private static void rustFirst() {
        DUES.sentence("'d' R ';' (first)");
        text("b2 0 1 0;d1;", -11, 0);
        text("r1;d1;", -11, 0);
        text("i0 1;d1;", -11, 0);
        text(" r1;d1;", -11, 1);
    }

    private static void rustOnce() {
        DUES.sentence("'d' R ';' (once)");
        text("d1;d1;", -13, 3);
        text("d1;r1;d2;", -13, 6);
        text("d1; d", -13, 4);
    }

    private static void sevenBoxes() {
        DUES.sentence("'b' B C S K ';' (7 BOXES at most)");
        good(SEVEN, 7);
        text(SEVEN + BOX, -13, 66);
        good("d1;", 0);
    }

    private static void tunes() {
        DUES.sentence("TUNE of B BARS, 2 .. 60");
        text("d1;b0 0 1 0;", -12, 4);
        text("d1;b1 0 1 0;", -12, 4);
        text("d1;b61 0 1 0;", -12, 4);
        good("d1;b2 0 1 0;", 1);
        good("d1;b60 0 1 0;", 1);
        due("B 2", Dues.duchyOf("d1;b2 0 1 0;").box(0, 0), 2);
        due("B 60", Dues.duchyOf("d1;b60 0 1 0;").box(0, 0), 60);
    }

    private static void catches() {
        DUES.sentence("CATCH at BAR C, 0 to B less 1");
        good("d1;b2 0 1 0;", 1);
        good("d1;b2 1 1 0;", 1);
        text("d1;b2 2 1 0;", -12, 6);
        good("d1;b60 59 1 0;", 1);
        text("d1;b60 60 1 0;", -12, 7);
        text("d1;b30 59 1 0;", -12, 7);
        due("C 0", Dues.duchyOf("d1;b60 0 1 0;").box(0, 1), 0);
        due("C 59", Dues.duchyOf("d1;b60 59 1 0;").box(0, 1), 59);
    }

    private static void springs() {
        DUES.sentence("SPRING S, 1 .. 20");
        text("d1;b2 0 0 0;", -12, 8);
        text("d1;b2 0 21 0;", -12, 8);
        due("S 1", Dues.duchyOf("d1;b2 0 1 0;").box(0, 2), 1);
        due("S 20", Dues.duchyOf("d1;b2 0 20 0;").box(0, 2), 20);
    }

    private static void kinds() {
        DUES.sentence("KIND K, 0 .. 4");
        text("d1;b2 0 1 5;", -12, 10);
        for (int kind = 0; kind <= 4; kind++) {
            due("K " + kind, Dues.duchyOf("d1;b2 0 1 " + kind + ";").box(0, 3), kind);
        }
    }

    private static void sixNests() {
        DUES.sentence("'i' A B ';' (6 at most)");
        good(SEVEN + "i0 1;i0 2;i0 3;i0 4;i0 5;i0 6;", 7);
        good(SEVEN + "i5 6;i4 5;i3 4;i2 3;i1 2;i0 1;", 7);
        text(SEVEN + "i0 1;i0 2;i0 3;i0 4;i0 5;i0 6;i0 1;", -13, 96);
    }

    private static void nestsToldAhead() {
        DUES.sentence("BOX B is in BOX A, both told ahead");
        text("d1;i0 1;" + BOX + BOX, -12, 4);
        text("d1;" + BOX + "i0 1;" + BOX, -12, 15);
        good("d1;" + BOX + BOX + "i0 1;" + BOX + "i0 2;", 3);
        due("the outer", Dues.duchyOf(TWO + "i0 1;").box(1, 9), 0);
        due("the outer of the last", Dues.duchyOf(SEVEN + "i5 6;").box(6, 9), 5);
    }

    private static void nestsBelow() {
        DUES.sentence("A below B");
        text(TWO + "i0 0;", -14, 24);
        text(TWO + "i1 1;", -14, 24);
        text(TWO + "i1 0;", -14, 24);
        good(TWO + "i0 1;", 2);
    }

    private static void nestsOnce() {
        DUES.sentence("each B once");
        text(TWO + "i0 1;i0 1;", -14, 29);
        text("d1;" + BOX.repeat(3) + "i0 2;i1 2;", -14, 38);
        good("d1;" + BOX.repeat(3) + "i0 1;i0 2;", 3);
        good("d1;" + BOX.repeat(3) + "i1 2;i0 1;", 3);
    }

    private static void sixRegents() {
        DUES.sentence("'r' W ';' (6 REGENTS at most)");
        due("regents of six", Dues.duchyOf("d1;r1;r2;r3;r4;r5;r6;").told(2), 6);
        due("the sixth", Dues.duchyOf("d1;r1;r2;r3;r4;r5;r6;").regent(5, 0), 6);
        text("d1;r1;r2;r3;r4;r5;r6;r7;", -13, 21);
        due("none", Dues.duchyOf("d1;").told(2), 0);
    }

    private static void weights() {
        DUES.sentence("WEIGHT W, 1 .. 30");
        text("d1;r0;", -12, 4);
        text("d1;r31;", -12, 4);
        due("W 1", Dues.duchyOf("d1;r1;").regent(0, 0), 1);
        due("W 30", Dues.duchyOf("d1;r30;").regent(0, 0), 30);
    }

    private static void figures() {
        DUES.sentence("NUMBERS have one to three figures");
        text("d;", -11, 1);
        due("one", Dues.duchyOf("d7;").told(0), 7);
        due("two", Dues.duchyOf("d07;").told(0), 7);
        due("three", Dues.duchyOf("d007;").told(0), 7);
        due("three, two of them a number", Dues.duchyOf("d070;").told(0), 70);
        text("d0007;", -12, 1);
        good("d001;b002 000 001 000;b060 059 020 004;i000 001;r030;", 2);
        text("d1;b2 0 1 0000;", -12, 10);
        text(TWO + "i0000 1;", -12, 22);
    }

    private static void wordsOfOneLetter() {
        DUES.sentence("a word is one letter");
        text("dd1;", -11, 1);
        text("d1;rr1;", -11, 4);
        text("d1;b b2 0 1 0;", -11, 5);
        text("d1;;", -11, 3);
        text("D1;", -11, 0);
    }

    private static void blanks() {
        DUES.sentence("blanks (32) may stand anywhere but within NUMBERS");
        String words = "d 1 ; b 2 1 20 4 ; b 3 2 1 0 ; i 0 1 ; r 30 ;";
        good(words, 2);
        good(" " + words.replace(" ", "   ") + "   ", 2);
        good("d1;b2 1 20 4;b3 2 1 0;i0 1;r30;", 2);
    }

    private static void blanksWithinNumbers() {
        DUES.sentence("blanks (32) may stand anywhere but within NUMBERS (what is behind one is a NUMBER of its own)");
        text("d1 0;", -11, 3);
        text("d1;r3 0;", -11, 6);
        text("d1;b6 0 59 1 0;", -12, 8);
        text(TWO + "i0 1 0;", -11, 26);
    }

    private static void otherBlanks() {
        DUES.sentence("blanks (32): no other letter is one");
        for (int letter : new int[] {0, 9, 10, 11, 12, 13, 31, 33, 95, 127, 133, 160, 255}) {
            text((char) letter + "d1;", -11, 0);
            text("d" + (char) letter + "1;", -11, 1);
            text("d1" + (char) letter + ";", -11, 2);
            text("d1;" + (char) letter, -11, 3);
            text("d1;b2" + (char) letter + "0 1 0;", -11, 5);
        }
    }

    private static void numbersSideBySide() {
        DUES.sentence("two NUMBERS side by side need one");
        text("d1;b20 1 0;", -12, 9);
        text("d1;b20 19 10;", -11, 12);
        text("d1;b2010;", -12, 4);
        text(TWO + "i01;", -11, 24);
        due("two and two", Dues.duchyOf("d1;b20 19 20 4;").box(0, 1), 19);
    }

    private static void firstFault() {
        DUES.sentence("FAULTS, at the first letter that has one");
        text("d0;x", -12, 1);
        text("d1;x0", -11, 3);
        text("d1;r0;d1;", -12, 4);
        text("d1;d0;", -13, 3);
        text("d1;b61 61 0 5", -12, 4);
        text("d1;b60 60 0 5", -12, 7);
        text("d1;b60 59 0 5", -12, 10);
        text("d1;b60 59 1 5", -12, 12);
        text("d1;b60 59 1 4", -11, 13);
        text(TWO + "i2 0x", -12, 22);
        text(TWO + "i1 0x", -14, 24);
        text(TWO + "i0 1x", -11, 25);
    }

    private static void faultAtTheEnd() {
        DUES.sentence("(the end at the text's length)");
        String text = " d 9 ;b 5 4 3 2; b3 2 1 0;i 0 1 ; r 7 ;";
        for (int length = 2; length < text.length(); length++) {
            String cut = text.substring(0, length);
            String behind = cut.substring(cut.lastIndexOf(';') + 1);
            boolean isWhole = cut.indexOf(';') >= 0 && behind.isBlank();
            text(cut, isWhole ? cut.split("b", -1).length - 1 : -11, isWhole ? Dues.NONE : length);
        }
        text("d", -11, 1);
        text("d1", -11, 2);
        text("d1    ", -11, 6);
        text("d0", -12, 1);
        text("d1;b2 2", -12, 6);
    }

    private static void leastFault() {
        DUES.sentence("of these the least");
        text("1111", -11, 0);
        text("d1;1111;", -11, 3);
        text("d1 1111;", -11, 3);
        text("d1;r1 1111;", -11, 6);
        text("d1 d1;", -11, 3);
        text("d1;r1 d1;", -11, 6);
        text(SEVEN + "r1" + BOX, -11, 68);
        text("d1;r1;r1;r1;r1;r1;r1 r1;", -11, 21);
        text(TWO + "i1 0000;", -12, 24);
        text(TWO + "i1 2;", -12, 24);
    }

    private static void lettersThatAreNoWords() {
        DUES.sentence("1 it cannot stand there (a letter that is no word)");
        for (int letter = 0; letter <= 255; letter++) {
            char c = (char) letter;
            if (c != ' ' && c != 'd') {
                text("" + c, -11, 0);
            }
            if (" dbir".indexOf(c) < 0) {
                text("d1;" + c, -11, 3);
                text("d1;" + BOX + c, -11, 12);
            }
            if (c != ' ' && (c < '0' || c > '9')) {
                text("d" + c, -11, 1);
                text("d1;b2 0 1" + c, -11, 9);
                text(TWO + "i" + c, -11, 22);
                text(TWO + "i0" + c, -11, 23);
                text("d1;r" + c, -11, 4);
            }
            if (c != ' ' && c != ';' && (c < '0' || c > '9')) {
                text("d1" + c, -11, 2);
                text("d1;b2 0 1 0" + c, -11, 11);
                text(TWO + "i0 1" + c, -11, 25);
                text("d1;r1" + c, -11, 5);
            }
        }
    }

    private static void anotherWordFirst() {
        DUES.sentence("1 it cannot stand there (another word first than 'd')");
        text(";", -11, 0);
        text("   ;", -11, 3);
        text("i", -11, 0);
        text("r", -11, 0);
        text("b", -11, 0);
        text("0", -11, 0);
    }

    private static void numbersOfFourFigures() {
        DUES.sentence("2 a NUMBER of four figures or more, or out of its bounds (at its first)");
        text("d0001;", -12, 1);
        text("d  1000;", -12, 3);
        text("d1;b0002 0 1 0;", -12, 4);
        text("d1;b2 0000 1 0;", -12, 6);
        text("d1;b2 0 0001 0;", -12, 8);
        text("d1;r0001;", -12, 4);
        text("d" + "0".repeat(239), -12, 1);
        text("d1;r" + "1".repeat(236), -12, 4);
        text("d4294967297;", -12, 1);
        text("d1;r18446744073709551617;", -12, 4);
    }

    private static void boxesThatAreNot() {
        DUES.sentence("2 a BOX that there is not (at its first)");
        text("d1;i0 0;", -12, 4);
        text("d1;" + BOX + "i0 1;", -12, 15);
        text("d1;" + BOX + "i1 0;", -12, 13);
        text(TWO + "i0  2;", -12, 25);
        text(TWO + "i  2 1;", -12, 24);
        text(SEVEN + "i0 7;", -12, 69);
        text(SEVEN + "i7 6;", -12, 67);
        text(SEVEN + "i999 6;", -12, 67);
        text(SEVEN + "i5 999;", -12, 69);
        good(SEVEN + "i5 6;", 7);
    }

    private static void tooMany() {
        DUES.sentence("3 'd' again, an eighth 'b', a seventh 'i', 'r' (at it)");
        text("d1;d", -13, 3);
        text(SEVEN + "  b", -13, 68);
        text(SEVEN + "i0 1;i0 2;i0 3;i0 4;i0 5;i0 6;i", -13, 96);
        text("d1;r1;r1;r1;r1;r1;r1;r", -13, 21);
        text("d1;r1;r1;r1;r1;r1;r1;r0;", -13, 21);
    }

    private static void nestFaults() {
        DUES.sentence("4 A not below B, or B in a BOX already (at the B)");
        text(TWO + "i  1   0  ;", -14, 28);
        text(TWO + "i1 0", -14, 24);
        text(TWO + "i0 001;i0 001;", -14, 31);
        text(TWO + "i0 1;i1 1;", -14, 29);
    }

    private static void emptyText() {
        DUES.sentence("An empty text (or one of blanks alone): no DUCHY");
        for (int count : new int[] {0, 1, 17, 240}) {
            BoxedHeirs x = Dues.duchyOf("d1;" + BOX + "r5;");
            x.bar(1);
            Dues.feedAll(x, " ".repeat(count));
            due("duchy() of " + count + " blanks", x.duchy(), 0);
            due("fault()", x.fault(), Dues.NONE);
            due("R", x.told(0), 0);
            due("boxes", x.told(1), 0);
            due("regents", x.told(2), 0);
            due("letters", x.told(3), 0);
            due("bars", x.told(4), 0);
            due("bar(1)", x.bar(1), Dues.NOT);
            due("drift(1)", x.drift(1), Dues.NOT);
            due("quiet(1, 0)", x.quiet(1, 0), Dues.NOT);
            due("box(0, 0)", x.box(0, 0), Dues.UNKNOWN);
            due("regent(0, 0)", x.regent(0, 0), Dues.UNKNOWN);
            due("undo()", x.undo(), Dues.NOT);
        }
        BoxedHeirs x = Dues.duchyOf("d1;");
        due("a duchy without boxes is one", x.bar(1), 0);
    }

    private static void newObject() {
        DUES.sentence("BoxedHeirs(): No DUCHY");
        BoxedHeirs x = new BoxedHeirs();
        for (int what = 0; what <= 13; what++) {
            due("told(" + what + ")", x.told(what), 0);
        }
        due("told(14)", x.told(14), Dues.NONE);
        due("fault()", x.fault(), Dues.NONE);
        due("bar(1)", x.bar(1), Dues.NOT);
        due("drift(1)", x.drift(1), Dues.NOT);
        due("undo()", x.undo(), Dues.NOT);
        due("order(400)", x.order(400), 0);
        due("quiet(400, 1)", x.quiet(400, 1), Dues.NOT);
        due("hold(-1)", x.hold(-1), 0);
        due("hold(0)", x.hold(0), Dues.UNKNOWN);
        due("says(1)", x.says(1), Dues.OUTSIDE);
        due("judge()", x.judge(), Dues.NONE);
        due("tear()", x.tear(), 0);
        due("catches(30)", x.catches(30), (1 << 30) - 1);
        due("goBack(0)", x.goBack(0), Dues.NOT);
        due("goBack(1)", x.goBack(1), Dues.NOT);
        due("seed(0)", x.seed(0), 0);
        due("duchy()", x.duchy(), 0);
    }

    private static void feeding() {
        DUES.sentence("comes behind THE TEXT: how many it has");
        BoxedHeirs x = Dues.duchyOf("d1;" + BOX);
        due("feed, the first again", x.feed('d'), 1);
        due("feed, the second", x.feed('0'), 2);
        due("the duchy is as it was", x.told(1), 1);
        due("duchy()", x.duchy(), -12);
        due("feed, the first once more", x.feed('x'), 1);
    }

    private static void duchyEmptiesTheText() {
        DUES.sentence("THE TEXT (it is empty then, with a FAULT, too) becomes THE DUCHY");
        BoxedHeirs x = Dues.duchyOf("d1;" + BOX);
        due("letters", x.told(3), 0);
        Dues.feedAll(x, "d1;r5");
        due("duchy() of half a text", x.duchy(), -11);
        due("letters behind a fault", x.told(3), 0);
        Dues.feedAll(x, ";");
        due("duchy() of the other half", x.duchy(), -11);
        due("fault()", x.fault(), 0);
        Dues.feedAll(x, "d2;");
        due("duchy()", x.duchy(), 0);
        due("duchy() again, of nothing", x.duchy(), 0);
        due("R", x.told(0), 0);
    }

    private static void duchyBeginsAnew() {
        DUES.sentence("(BAR 0, all DOWN, no RUST, DAMP, nobody sits, no NODS, THUDS; nothing SEEN, no BOOK; IMAGES, what could be "
            + "undone are gone; THE SEED stays): how many BOXES");
        String text = "d1;b2 1 9 3;b2 1 9 3;b3 1 9 3;r30;r4;";
        BoxedHeirs x = Dues.duchyOf(text);
        x.sit(0, 2);
        x.sit(1, 0);
        x.bar(2);
        x.damp(2, true);
        x.see(0, true);
        x.write(0, 1);
        x.seed(4711);
        x.keep(0);
        x.keep(1);
        x.bar(1);
        int[] ahead = {1, 3, 2, 0, 3, 3, 3, 4, 4, 1, 1, 1, 1, 1};
        for (int what = 0; what < ahead.length; what++) {
            due("ahead of it, told(" + what + ")", x.told(what), ahead[what]);
        }
        Dues.feedAll(x, text);
        due("duchy()", x.duchy(), 3);
        for (int what = 3; what <= 13; what++) {
            due("told(" + what + ")", x.told(what), 0);
        }
        for (int b = 0; b < 3; b++) {
            for (int what = 4; what <= 7; what++) {
                due("box(" + b + ", " + what + ")", x.box(b, what), 0);
            }
        }
        due("regent(0, 1)", x.regent(0, 1), Dues.NONE);
        due("regent(1, 1)", x.regent(1, 1), Dues.NONE);
        due("undo()", x.undo(), Dues.NOT);
        due("goBack(0)", x.goBack(0), Dues.NOT);
        due("goBack(1)", x.goBack(1), Dues.NOT);
        due("catches(5)", x.catches(5), 31);
        due("judge()", x.judge(), Dues.NONE);
        due("seed(0)", x.seed(0), 4711);
        due("tear()", x.tear(), 0);
        x.see(0, false);
        due("what lifted ahead is forgotten", x.catches(5), 8 | 16);
    }

    private static void textsCountForThemselves() {
        DUES.sentence("THE TEXT becomes THE DUCHY (nothing of an earlier one counts)");
        BoxedHeirs x = new BoxedHeirs();
        String full = SEVEN + "i0 1;i0 2;i0 3;i0 4;i0 5;i0 6;r1;r1;r1;r1;r1;r1;";
        Dues.feedAll(x, full + "x");
        due("duchy() with a fault behind all that may be", x.duchy(), -11);
        Dues.feedAll(x, full);
        due("duchy() of all that may be", x.duchy(), 7);
        Dues.feedAll(x, full);
        due("duchy() of it once more", x.duchy(), 7);
        Dues.feedAll(x, "d1;" + BOX + BOX);
        due("duchy() of less", x.duchy(), 2);
        due("in none", x.box(1, 9), Dues.NONE);
        due("alone", x.box(0, 11), 1);
        due("no regents", x.told(2), 0);
    }

    private static BoxedHeirs busy() {
        BoxedHeirs x = Dues.duchyOf("d2;b2 1 9 3;b3 0 2 1;r4;");
        x.bar(3);
        x.keep(1);
        x.sit(0, 1);
        x.damp(0, true);
        x.see(1, false);
        x.write(1, 2);
        x.seed(99);
        return x;
    }

    private static void faultLeavesAllElse() {
        DUES.sentence("-10 less the number of its FAULT (all else is as it was)");
        String[] faults = {"x", "d5;b9 9 1 1;", "d5;d5;", "d5;b9 0 1 1;b9 0 1 1;i1 0;", "d5;b9 1 1 1;r9;r9"};
        int[] answers = {-11, -12, -13, -14, -11};
        for (int i = 0; i < faults.length; i++) {
            BoxedHeirs x = busy();
            Dues.feedAll(x, faults[i]);
            due("duchy() of [" + faults[i] + "]", x.duchy(), answers[i]);
            // Both get the same last fault, since the look asks for fault(), too.
            Dues.feedAll(x, "x");
            x.duchy();
            BoxedHeirs twin = busy();
            Dues.feedAll(twin, "x");
            twin.duchy();
            due("all else is as it was behind [" + faults[i] + "]", Twins.lookThrough(x).equals(Twins.lookThrough(twin)) ? 1 : 0, 1);
        }
        BoxedHeirs x = busy();
        Dues.feedAll(x, "d5;b9 1 1 1;r9;r9");
        x.duchy();
        int[] wants = {2, 2, 1, 0, 3, 3, 3, 2, 1, 0, 0, 1, 1, 2};
        for (int what = 0; what < wants.length; what++) {
            due("told(" + what + ")", x.told(what), wants[what]);
        }
        due("the tune", x.box(0, 0), 2);
        due("the weight", x.regent(0, 0), 4);
        due("the seed", x.seed(0), 99);
    }

    private static void faultOfTheLatest() {
        DUES.sentence("The letter of the FAULT of the latest duchy(); NONE");
        BoxedHeirs x = new BoxedHeirs();
        due("fault() ahead of all", x.fault(), Dues.NONE);
        Dues.feedAll(x, "d1;x");
        due("fault() of a text that is not yet one", x.fault(), Dues.NONE);
        x.duchy();
        due("fault()", x.fault(), 3);
        due("fault() once more", x.fault(), 3);
        Dues.feedAll(x, "x");
        due("fault() while the next is told", x.fault(), 3);
        x.duchy();
        due("fault() of the next", x.fault(), 0);
        Dues.feedAll(x, "d1;");
        x.duchy();
        due("fault() of a good one", x.fault(), Dues.NONE);
        Dues.feedAll(x, "d1;x");
        x.duchy();
        x.duchy();
        due("fault() of an empty one", x.fault(), Dues.NONE);
    }
}
