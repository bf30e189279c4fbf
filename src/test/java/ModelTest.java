import java.util.Random;

/** Random runs, always the same ones, on the class and on the plain model: every answer has to be the same. */
public final class ModelTest {
    private static final int RUNS = 1500;
    private static final int CALLS = 512;
    private static final String[] NAMES = {
        "feed", "duchy", "fault", "told", "box", "regent", "bar", "wind", "sit", "rise", "push", "oil", "damp", "drift", "undo",
        "comes", "order", "both", "ahead", "parted", "quiet", "hold", "lasts", "says", "dry", "see", "catches", "tryBar", "write",
        "tear", "judge", "seed", "keep", "goBack"};

    private final Dues dues = new Dues();
    private final Random random;
    private BoxedHeirs x = new BoxedHeirs();
    private PlainModel m = new PlainModel();
    private int calls;

    private ModelTest(long number) {
        random = new Random(number);
    }

    public static void main(String[] args) {
        int wrong = 0;
        for (int run = 0; run < RUNS && wrong < 5; run++) {
            ModelTest test = new ModelTest(run);
            test.play(run);
            if (!test.dues.isAsDue()) {
                wrong++;
                System.out.println("^ in run " + run);
            }
        }
        if (wrong > 0) {
            System.exit(1);
        }
    }

    private void play(int run) {
        if (run % 10 != 0) {
            feedText(someText());
        }
        while (calls < CALLS && dues.isAsDue()) {
            int at = random.nextInt(100);
            if (at == 0 && calls < CALLS / 2) {
                feedText(someText());
            } else if (at < 3 && calls < CALLS - 40) {
                lookAtAll();
            } else {
                String name = NAMES[2 + random.nextInt(NAMES.length - 2)];
                answer(name, argument(name, 0), argument(name, 1));
            }
        }
    }

    private void lookAtAll() {
        for (int what = -1; what <= 15; what++) {
            answer("told", what, 0);
        }
        int b = random.nextInt(7);
        for (int what = -1; what <= 13; what++) {
            answer("box", b, what);
        }
        answer("hold", -1, 0);
        answer("order", 400, 0);
    }

    private int below(int n) {
        return random.nextInt(n);
    }

    private int pick(int... some) {
        return some[random.nextInt(some.length)];
    }

    private int argument(String name, int which) {
        if (below(150) == 0) {
            return pick(Integer.MIN_VALUE, Integer.MAX_VALUE, -1, 0, 60, 61, 400, 401, 1 << 30, 1 << 31, 100, 255, 256);
        }
        if (which == 1) {
            switch (name) {
                case "box": return below(15) - 1;
                case "regent": case "parted": case "quiet": return below(20) == 0 ? pick(-1, 2) : below(2);
                case "wind": return below(20) == 0 ? pick(0, 61) : 1 + below(60);
                case "dry": return pick(-1, 0, 1, 50, 90, 99, 100, 101, below(101));
                case "write": return below(4) > 0 && m.isBox(0) ? m.now.boxes.get(below(m.now.boxes.size())).at : below(62) - 1;
                default: return below(8) - below(2);
            }
        }
        switch (name) {
            case "feed": return below(257) - 1;
            case "told": return below(17) - 1;
            case "bar": return below(3) > 0 ? below(12) : below(402);
            case "drift": return below(62);
            case "order": case "quiet": return below(402);
            case "parted": return below(5) == 0 ? below(140) - 6 : below(1 << m.now.boxes.size());
            case "says": return pick(below(10), 11, 12, 21, 123, 12345, 77777, 1111111, 10, 120, 99999, 100000, 111111, below(78000));
            case "dry": return below(64) - 1;
            case "see": return below(3) > 0 ? below(5) : below(32) - 1;
            case "catches": case "tryBar": return below(3) > 0 ? 2 + below(9) : below(33);
            case "seed": return random.nextInt();
            case "keep": case "goBack": return below(4) - 1;
            case "undo": return 0;
            default: return below(9) - 1;
        }
    }

    private String someText() {
        StringBuilder s = new StringBuilder();
        s.append(blank()).append('d').append(blank()).append(1 + (below(2) == 0 ? below(99) : below(6))).append(blank()).append(';');
        int boxes = below(8);
        int most = pick(4, 8, 12, 60);
        int widest = pick(3, 20);
        for (int b = 0; b < boxes; b++) {
            int tune = pick(2 + below(most - 1), 2 + below(most - 1), 2, most);
            s.append("b").append(blank()).append(tune).append(' ').append(blank()).append(pick(below(tune), tune - 1)).append(' ')
                .append(1 + below(widest)).append(' ').append(below(5)).append(blank()).append(';');
            if (b > 0 && below(2) == 0) {
                s.append("i").append(below(b)).append(' ').append(blank()).append(b).append(';').append(blank());
            }
        }
        for (int r = below(7); r > 0; r--) {
            s.append('r').append(1 + below(below(2) == 0 ? 30 : 6)).append(';');
        }
        if (below(4) == 0) {
            spoil(s);
        }
        return s.toString();
    }

    private String blank() {
        return below(12) == 0 ? " " : "";
    }

    private void spoil(StringBuilder s) {
        String[] extra = {"d1;", "b2 0 1 0;", "i0 1;", "i0 0;", "i1 0;", "i0 7;", "r31;", "r0;", "r1;", "b61 0 1 0;", "b5 5 1 0;",
            "b5 0 0 0;", "b5 0 21 0;", "b5 0 1 5;", "d", "b", "x", ";", "0", "000", " ", "0001", "r030;", "r0030;", "i", "\t", "" + (char) 200};
        int times = 1 + below(3);
        for (int i = 0; i < times; i++) {
            int at = below(s.length() + 1);
            if (below(3) == 0 && at < s.length()) {
                s.deleteCharAt(at);
            } else {
                s.insert(below(3) == 0 ? s.length() : at, extra[below(extra.length)]);
            }
        }
    }

    private void feedText(String text) {
        int last = 0;
        for (int i = 0; i < text.length() && i < 240; i++) {
            last = x.feed(text.charAt(i));
            dues.due("feed in \"" + text + "\"", last, m.feed(text.charAt(i)));
            calls++;
        }
        String call = "duchy() of \"" + text + "\"";
        calls += 2;
        dues.due(call, x.duchy(), m.duchy());
        dues.due("fault() behind " + call, x.fault(), m.faultAt);
    }

    private void answer(String name, int a, int b) {
        calls++;
        dues.due(name + "(" + a + ", " + b + ") as call " + calls, byClass(name, a, b), byModel(name, a, b));
    }

    private int byClass(String name, int a, int b) {
        switch (name) {
            case "feed": return x.feed(a);
            case "duchy": return x.duchy();
            case "fault": return x.fault();
            case "told": return x.told(a);
            case "box": return x.box(a, b);
            case "regent": return x.regent(a, b);
            case "bar": return x.bar(a);
            case "wind": return x.wind(a, b);
            case "sit": return x.sit(a, b);
            case "rise": return x.rise(a);
            case "push": return x.push(a);
            case "oil": return x.oil(a);
            case "damp": return x.damp(a, b % 2 == 0);
            case "drift": return x.drift(a);
            case "undo": return x.undo();
            case "comes": return x.comes(a);
            case "order": return x.order(a);
            case "both": return x.both(a, b);
            case "ahead": return x.ahead(a, b);
            case "parted": return x.parted(a, b);
            case "quiet": return x.quiet(a, b);
            case "hold": return x.hold(a);
            case "lasts": return x.lasts(a);
            case "says": return x.says(a);
            case "dry": return x.dry(a, b);
            case "see": return x.see(a, b % 2 == 0);
            case "catches": return x.catches(a);
            case "tryBar": return x.tryBar(a);
            case "write": return x.write(a, b);
            case "tear": return x.tear();
            case "judge": return x.judge();
            case "seed": return x.seed(a);
            case "keep": return x.keep(a);
            default: return x.goBack(a);
        }
    }

    private int byModel(String name, int a, int b) {
        switch (name) {
            case "feed": return m.feed(a);
            case "duchy": return m.duchy();
            case "fault": return m.faultAt;
            case "told": return m.told(a);
            case "box": return m.box(a, b);
            case "regent": return m.regent(a, b);
            case "bar": return m.bar(a);
            case "wind": return m.wind(a, b);
            case "sit": return m.sit(a, b);
            case "rise": return m.rise(a);
            case "push": return m.push(a);
            case "oil": return m.oil(a);
            case "damp": return m.damp(a, b % 2 == 0);
            case "drift": return m.drift(a);
            case "undo": return m.undo();
            case "comes": return m.comes(a);
            case "order": return m.order(a);
            case "both": return m.both(a, b);
            case "ahead": return m.ahead(a, b);
            case "parted": return m.parted(a, b);
            case "quiet": return m.quiet(a, b);
            case "hold": return m.hold(a);
            case "lasts": return m.lasts(a);
            case "says": return m.says(a);
            case "dry": return m.dry(a, b);
            case "see": return m.see(a, b % 2 == 0);
            case "catches": return m.catches(a);
            case "tryBar": return m.tryBar(a);
            case "write": return m.write(a, b);
            case "tear": return m.tear();
            case "judge": return m.judge();
            case "seed": return m.seed(a);
            case "keep": return m.keep(a);
            default: return m.goBack(a);
        }
    }
}
