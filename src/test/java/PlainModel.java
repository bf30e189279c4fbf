import java.util.ArrayDeque;
import java.util.ArrayList;
import java.util.Arrays;
import java.util.Deque;
import java.util.List;

/**
 * The document once more, by plain trying: every bar is turned, every choice is gone through, every state is a copy.
 * It shares no code with the class, and no short cut either.
 */
final class PlainModel {
    static final int NONE = -1, UNKNOWN = -1000000001, OUTSIDE = -1000000002, NOT = -1000000003, FULL = -1000000004;

    static final class Box {
        int tune, hook, spring, kind, outer = NONE;
        int at, sways, rust;
        boolean up, damp;

        Box copy() {
            Box c = new Box();
            c.tune = tune; c.hook = hook; c.spring = spring; c.kind = kind; c.outer = outer;
            c.at = at; c.sways = sways; c.rust = rust; c.up = up; c.damp = damp;
            return c;
        }
    }

    static final class World {
        int each;
        List<Box> boxes = new ArrayList<>();
        List<Integer> weights = new ArrayList<>();
        int[] seats = {NONE, NONE, NONE, NONE, NONE, NONE};
        int bars, nods, thuds;

        World copy() {
            World w = new World();
            w.each = each;
            for (Box b : boxes) w.boxes.add(b.copy());
            w.weights.addAll(weights);
            w.seats = seats.clone();
            w.bars = bars; w.nods = nods; w.thuds = thuds;
            return w;
        }

        int depth(int b) {
            int outer = boxes.get(b).outer;
            return outer == NONE ? 0 : 1 + depth(outer);
        }

        boolean isWithin(int inner, int b) {
            if (inner == b) return true;
            int outer = boxes.get(inner).outer;
            return outer != NONE && isWithin(outer, b);
        }

        int force(int i) {
            Box b = boxes.get(i);
            int f;
            if (b.kind == 0) f = b.spring - b.rust / 2;
            else if (b.kind == 1) f = b.spring - b.rust;
            else if (b.kind == 2) f = b.spring - b.rust / 2 - (b.damp ? 2 : 0);
            else if (b.kind == 3) f = b.spring;
            else f = b.spring - b.rust / 2 + 3 * depth(i);
            return f < 0 ? 0 : f;
        }

        int on(int b) {
            int sum = 0;
            for (int r = 0; r < weights.size(); r++) if (seats[r] == b) sum += weights.get(r);
            return sum;
        }

        boolean held(int b) {
            return on(b) >= force(b) && on(b) >= 1;
        }

        boolean turn(int i) {
            Box b = boxes.get(i);
            b.at = (b.at + 1) % b.tune;
            if (b.at == b.hook && !b.up) {
                boolean free = b.outer == NONE || boxes.get(b.outer).up;
                if (!held(i) && force(i) >= 1 && free) {
                    b.up = true;
                    b.sways = b.damp ? 2 * force(i) : force(i);
                    return true;
                }
                thuds = Math.min(999999, thuds + 1);
                return false;
            }
            if (b.sways > 0) b.sways--;
            return false;
        }

        List<Integer> pass() {
            List<Integer> came = new ArrayList<>();
            for (int b = 0; b < boxes.size(); b++) if (turn(b)) came.add(b);
            for (int i = 0; i < came.size(); i++) for (int j = 0; j < i; j++) nods = Math.min(999999, nods + 1);
            bars++;
            if (bars % each == 0) for (Box b : boxes) b.rust = Math.min(20, b.rust + 1);
            return came;
        }

        int pushed(int b) {
            int many = 0;
            for (int c = 0; c < boxes.size(); c++) {
                if (isWithin(c, b) && boxes.get(c).up) {
                    boxes.get(c).up = false;
                    boxes.get(c).sways = 0;
                    many++;
                }
            }
            return many;
        }

        int ups() {
            int many = 0;
            for (Box b : boxes) if (b.up) many++;
            return many;
        }

        boolean atCatch(int b, int further, int behind) {
            Box x = boxes.get(b);
            return (x.at + further + behind) % x.tune == x.hook;
        }

        int next(int b, int further) {
            for (int t = 1; ; t++) if (atCatch(b, further, t)) return t;
        }
    }

    StringBuilder text = new StringBuilder();
    int faultAt = NONE;
    World now = new World();
    Deque<World> past = new ArrayDeque<>();
    World[] images = new World[2];
    long[] imageSeeds = new long[2];
    List<int[]> seen = new ArrayList<>();
    List<int[]> book = new ArrayList<>();
    long seed;

    boolean isBox(int b) { return b >= 0 && b < now.boxes.size(); }

    boolean isRegent(int r) { return r >= 0 && r < now.weights.size(); }

    static boolean in(int x, int low, int high) { return x >= low && x <= high; }

    void done() {
        past.addLast(now.copy());
        if (past.size() > 16) past.removeFirst();
    }

    int feed(int letter) {
        if (!in(letter, 0, 255)) return OUTSIDE;
        if (text.length() == 240) return FULL;
        text.append((char) letter);
        return text.length();
    }

    // A token: {where it begins, figures (0: a word), its value or its letter}; the last one stands at the end, letter -1.
    static List<int[]> tokens(String s) {
        List<int[]> all = new ArrayList<>();
        int i = 0;
        while (i < s.length()) {
            char c = s.charAt(i);
            if (c == ' ') {
                i++;
            } else if (c >= '0' && c <= '9') {
                int from = i;
                while (i < s.length() && s.charAt(i) >= '0' && s.charAt(i) <= '9') i++;
                int figures = i - from;
                all.add(new int[] {from, figures, figures > 3 ? 9999 : Integer.parseInt(s.substring(from, i))});
            } else {
                all.add(new int[] {i, 0, c});
                i++;
            }
        }
        all.add(new int[] {s.length(), 0, -1});
        return all;
    }

    /** {fault, letter}, or null; fills the world. */
    static int[] read(String s, World w) {
        List<int[]> t = tokens(s);
        int nests = 0;
        int i = 0;
        while (t.get(i)[2] != -1 || t.get(i)[1] > 0) {
            int[] word = t.get(i);
            String shape = word[1] > 0 ? "" : word[2] == 'd' || word[2] == 'r' ? "n" : word[2] == 'b' ? "nnnn" : word[2] == 'i' ? "nn" : "";
            if (shape.isEmpty() || (i == 0 && word[2] != 'd')) return new int[] {1, word[0]};
            if (word[2] == 'd' && i > 0 || word[2] == 'b' && w.boxes.size() == 7
                || word[2] == 'i' && nests == 6 || word[2] == 'r' && w.weights.size() == 6) return new int[] {3, word[0]};
            int[] v = new int[4];
            for (int k = 0; k < shape.length(); k++) {
                int[] n = t.get(i + 1 + k);
                if (n[1] == 0) return new int[] {1, n[0]};
                int low = 0;
                int high = 0;
                if (word[2] == 'd') { low = 1; high = 99; }
                if (word[2] == 'r') { low = 1; high = 30; }
                if (word[2] == 'i') { high = w.boxes.size() - 1; }
                if (word[2] == 'b') { low = new int[] {2, 0, 1, 0}[k]; high = new int[] {60, v[0] - 1, 20, 4}[k]; }
                if (n[1] > 3 || !in(n[2], low, high)) return new int[] {2, n[0]};
                v[k] = n[2];
                if (word[2] == 'i' && k == 1 && (v[0] >= v[1] || w.boxes.get(v[1]).outer != NONE)) return new int[] {4, n[0]};
            }
            int[] close = t.get(i + 1 + shape.length());
            if (close[1] > 0 || close[2] != ';') return new int[] {1, close[0]};
            if (word[2] == 'd') w.each = v[0];
            if (word[2] == 'r') w.weights.add(v[0]);
            if (word[2] == 'i') { w.boxes.get(v[1]).outer = v[0]; nests++; }
            if (word[2] == 'b') {
                Box b = new Box();
                b.tune = v[0]; b.hook = v[1]; b.spring = v[2]; b.kind = v[3];
                w.boxes.add(b);
            }
            i += 2 + shape.length();
        }
        return null;
    }

    int duchy() {
        World w = new World();
        int[] fault = read(text.toString(), w);
        text.setLength(0);
        faultAt = fault == null ? NONE : fault[1];
        if (fault != null) return -10 - fault[0];
        now = w;
        past.clear();
        images = new World[2];
        seen.clear();
        book.clear();
        return w.boxes.size();
    }

    int told(int what) {
        int set = 0;
        switch (what) {
            case 0: return now.each;
            case 1: return now.boxes.size();
            case 2: return now.weights.size();
            case 3: return text.length();
            case 4: return now.bars;
            case 5: for (int b = 0; isBox(b); b++) if (now.boxes.get(b).up) set += 1 << b; return set;
            case 6: for (int b = 0; isBox(b); b++) if (now.boxes.get(b).sways > 0) set += 1 << b; return set;
            case 7: for (int b = 0; isBox(b); b++) if (now.held(b)) set += 1 << b; return set;
            case 8: for (int b = 0; isBox(b); b++) if (now.boxes.get(b).damp) set += 1 << b; return set;
            case 9: return now.nods;
            case 10: return now.thuds;
            case 11: return seen.size();
            case 12: return book.size();
            case 13: return past.size();
            case 14:
                for (int t = 1; t <= 9999 && !now.boxes.isEmpty(); t++) {
                    boolean all = true;
                    for (Box b : now.boxes) all &= (b.at + t) % b.tune == 0;
                    if (all) return t;
                }
                return NONE;
            default: return OUTSIDE;
        }
    }

    int box(int i, int what) {
        if (!isBox(i)) return UNKNOWN;
        Box b = now.boxes.get(i);
        int set = 0;
        for (int c = 0; isBox(c); c++) if (now.isWithin(c, i)) set += 1 << c;
        int[] all = {b.tune, b.hook, b.spring, b.kind, b.at, b.up ? 1 : 0, b.sways, b.rust, now.force(i), b.outer, now.depth(i), set, now.on(i)};
        return in(what, 0, 12) ? all[what] : OUTSIDE;
    }

    int regent(int r, int what) {
        if (!isRegent(r)) return UNKNOWN;
        return what == 0 ? now.weights.get(r) : what == 1 ? now.seats[r] : OUTSIDE;
    }

    int bar(int n) {
        if (!in(n, 1, 400)) return OUTSIDE;
        if (now.each == 0) return NOT;
        if (now.bars > 99999) return FULL;
        done();
        for (int i = 0; i < n; i++) now.pass();
        return now.ups();
    }

    int wind(int b, int n) {
        if (!isBox(b)) return UNKNOWN;
        if (!in(n, 1, 60)) return OUTSIDE;
        done();
        for (int i = 0; i < n; i++) now.turn(b);
        return now.boxes.get(b).at;
    }

    int sit(int r, int b) {
        if (!isRegent(r) || !isBox(b)) return UNKNOWN;
        int was = now.seats[r];
        if (was == b) return NOT;
        done();
        now.seats[r] = b;
        return was;
    }

    int rise(int r) {
        if (!isRegent(r)) return UNKNOWN;
        int was = now.seats[r];
        if (was == NONE) return NOT;
        done();
        now.seats[r] = NONE;
        return was;
    }

    int push(int b) {
        if (!isBox(b)) return UNKNOWN;
        if (!now.boxes.get(b).up) return NOT;
        done();
        return now.pushed(b);
    }

    int oil(int b) {
        if (!isBox(b)) return UNKNOWN;
        done();
        int was = now.boxes.get(b).rust;
        now.boxes.get(b).rust = 0;
        return was;
    }

    int damp(int b, boolean is) {
        if (!isBox(b)) return UNKNOWN;
        done();
        int was = now.boxes.get(b).damp ? 1 : 0;
        now.boxes.get(b).damp = is;
        return was;
    }

    int draw(int n) {
        seed = (seed * 1103515245L + 12345L) % (1L << 31);
        return (int) (seed / 65536 % n);
    }

    int drift(int n) {
        if (!in(n, 1, 60)) return OUTSIDE;
        if (now.each == 0) return NOT;
        if (now.bars > 99999) return FULL;
        done();
        int boxes = now.boxes.size();
        for (int i = 0; i < n; i++) {
            int what = boxes > 0 ? draw(6) : 5;
            if (what == 0) {
                Box b = now.boxes.get(draw(boxes));
                b.damp = !b.damp;
            } else if (what == 1) {
                int b = draw(boxes);
                if (now.boxes.get(b).up) now.pushed(b);
            } else if (what == 2 && !now.weights.isEmpty()) {
                int r = draw(now.weights.size());
                now.seats[r] = draw(boxes);
            } else if (what == 3) {
                now.boxes.get(draw(boxes)).rust = 0;
            }
            now.pass();
        }
        return now.ups();
    }

    int undo() {
        if (past.isEmpty()) return NOT;
        now = past.removeLast();
        return past.size();
    }

    int comes(int b) {
        if (!isBox(b)) return UNKNOWN;
        World w = now.copy();
        for (int t = 0; t <= 4000; t++) {
            if (w.boxes.get(b).up) return t;
            w.pass();
        }
        return NONE;
    }

    int order(int n) {
        if (!in(n, 1, 400)) return OUTSIDE;
        World w = now.copy();
        int figures = 0;
        for (int t = 0; t < n && w.each > 0; t++) for (int b : w.pass()) figures = figures * 10 + b + 1;
        return figures;
    }

    int both(int b, int c) {
        if (!isBox(b) || !isBox(c) || b == c) return UNKNOWN;
        for (int t = 1; t <= 3600; t++) if (now.atCatch(b, 0, t) && now.atCatch(c, 0, t)) return t;
        return NONE;
    }

    int ahead(int b, int c) {
        if (!isBox(b) || !isBox(c) || b == c) return UNKNOWN;
        for (int k = 0; k < now.boxes.get(b).tune; k++) if (now.next(b, k) < now.next(c, 0)) return k;
        return NONE;
    }

    boolean isParted(List<Integer> who, int[] further) {
        for (int t = 1; t <= 60; t++) {
            int many = 0;
            for (int i = 0; i < who.size(); i++) if (now.atCatch(who.get(i), further[i], t)) many++;
            if (many > 1) return false;
        }
        return true;
    }

    int parted(int set, int what) {
        for (int k = 0; k < 32; k++) if ((set >>> k & 1) == 1 && !isBox(k)) return UNKNOWN;
        if (!in(what, 0, 1)) return OUTSIDE;
        List<Integer> who = new ArrayList<>();
        for (int b = 0; isBox(b); b++) if ((set >> b & 1) == 1) who.add(b);
        if (!in(who.size(), 2, 4)) return NOT;
        int all = (int) Math.round(Math.pow(10, who.size()));
        int least = Integer.MAX_VALUE;
        int first = NONE;
        for (int n = 0; n < all; n++) {
            int[] further = new int[who.size()];
            int rest = n;
            for (int i = who.size() - 1; i >= 0; i--) { further[i] = rest % 10; rest /= 10; }
            int sum = Arrays.stream(further).sum();
            if (sum < least && isParted(who, further)) { least = sum; first = n; }
        }
        return first == NONE ? NONE : what == 0 ? least : first;
    }

    int quiet(int n, int what) {
        if (!in(n, 1, 400) || !in(what, 0, 1)) return OUTSIDE;
        if (now.each == 0) return NOT;
        boolean[] loud = new boolean[n];
        for (int t = 0; t < n; t++) for (int b = 0; isBox(b); b++) loud[t] |= now.atCatch(b, 0, t + 1);
        int most = 0;
        int start = NONE;
        for (int from = 0; from < n; from++) {
            int many = 0;
            while (from + many < n && !loud[from + many]) many++;
            if (many > most) { most = many; start = from; }
        }
        return what == 0 ? most : start;
    }

    /** Goes through all postings in the document's order: the lesser regent first, nobody last. */
    void post(int b, int[] who, int[][] best) {
        if (b == now.boxes.size()) {
            long many = Arrays.stream(who).filter(r -> r != NONE).count();
            long had = best[0] == null ? -1 : Arrays.stream(best[0]).filter(r -> r != NONE).count();
            if (many > had) best[0] = who.clone();
            return;
        }
        for (int r = 0; r < now.weights.size(); r++) {
            boolean free = true;
            for (int c = 0; c < b; c++) free &= who[c] != r;
            if (free && now.weights.get(r) >= now.force(b)) { who[b] = r; post(b + 1, who, best); }
        }
        who[b] = NONE;
        post(b + 1, who, best);
    }

    int hold(int b) {
        if (b != NONE && !isBox(b)) return UNKNOWN;
        int[][] best = new int[1][];
        post(0, new int[now.boxes.size()], best);
        return b != NONE ? best[0][b] : (int) Arrays.stream(best[0]).filter(r -> r != NONE).count();
    }

    int lasts(int b) {
        if (!isBox(b)) return UNKNOWN;
        World w = now.copy();
        for (int t = 0; t <= 2000; t++) {
            if (w.force(b) == 0) return t;
            w.pass();
        }
        return NONE;
    }

    int says(int row) {
        String s = Integer.toString(row);
        if (row < 1 || s.length() > 5) return OUTSIDE;
        int sum = 0;
        for (char c : s.toCharArray()) {
            if (!isBox(c - '1')) return OUTSIDE;
            sum += now.boxes.get(c - '1').tune;
        }
        return sum % 26;
    }

    int dry(int n, int q) {
        if (!in(n, 0, 60) || !in(q, 0, 100)) return OUTSIDE;
        long odds = 1000000000L;
        for (int i = 0; i < n; i++) odds = odds * q / 100;
        return (int) odds;
    }

    int see(int x, boolean lifts) {
        if (!in(x, 0, 29)) return OUTSIDE;
        if (seen.size() == 6) return FULL;
        seen.add(new int[] {x, lifts ? 1 : 0});
        return seen.size();
    }

    static boolean lifts(int x, int hook, int tune) {
        return x == hook || x == (hook + tune - 1) % tune || x == (hook + tune - 2) % tune;
    }

    int catches(int tune) {
        if (!in(tune, 2, 30)) return OUTSIDE;
        int set = 0;
        for (int hook = 0; hook < tune; hook++) {
            boolean fits = true;
            for (int[] s : seen) fits &= s[0] >= tune || lifts(s[0], hook, tune) == (s[1] == 1);
            if (fits) set |= 1 << hook;
        }
        return set;
    }

    int tryBar(int tune) {
        if (!in(tune, 2, 30)) return OUTSIDE;
        int set = catches(tune);
        int best = NONE;
        int least = Integer.MAX_VALUE;
        for (int x = 0; x < tune; x++) {
            int yes = 0;
            int no = 0;
            for (int hook = 0; hook < tune; hook++) {
                if ((set >> hook & 1) == 0) continue;
                if (lifts(x, hook, tune)) yes++; else no++;
            }
            if (yes > 0 && no > 0 && Math.max(yes, no) < least) { least = Math.max(yes, no); best = x; }
        }
        return best;
    }

    int write(int b, int bar) {
        if (!isBox(b)) return UNKNOWN;
        if (!in(bar, 0, 59)) return OUTSIDE;
        if (book.size() == 15) return FULL;
        book.add(new int[] {b, bar});
        return book.size();
    }

    int tear() {
        int had = seen.size() + book.size();
        seen.clear();
        book.clear();
        return had;
    }

    int judge() {
        for (int i = 0; i < book.size(); i++) if (now.boxes.get(book.get(i)[0]).at != book.get(i)[1]) return i;
        return NONE;
    }

    int seed(int v) {
        if (v < 0) return OUTSIDE;
        int was = (int) seed;
        seed = v;
        return was;
    }

    int keep(int i) {
        if (!in(i, 0, 1)) return UNKNOWN;
        images[i] = now.copy();
        imageSeeds[i] = seed;
        past.clear();
        return 1;
    }

    int goBack(int i) {
        if (!in(i, 0, 1)) return UNKNOWN;
        if (images[i] == null) return NOT;
        now = images[i].copy();
        seed = imageSeeds[i];
        past.clear();
        return 1;
    }
}
