import java.nio.charset.StandardCharsets;
import java.util.ArrayList;
import java.util.Arrays;
import java.util.Comparator;
import java.util.HashMap;
import java.util.HashSet;
import java.util.LinkedHashMap;
import java.util.List;
import java.util.Map;
import java.util.Set;
import java.util.TreeMap;
import java.util.function.IntBinaryOperator;
import java.util.function.ToIntFunction;
import java.util.regex.Matcher;
import java.util.regex.Pattern;

/**
 * The document once more, written for the tests in another way than QuillDesk: with objects, trees
 * and plain trying out instead of rows and tables, so that a slip in one does not hide in both.
 */
final class Model {
    static final class Bird { int kind, ink, worn; boolean gone; }
    static final class Hand { int hand, blots, signed; Bird quill; Sheet deed; int no; }
    static final class Sheet { int length, written; Hand by; int no; }
    record Order(int hour, int clerk, String verb, int v) { }
    record Rule(String word, ToIntFunction<Map<String, Integer>> e, ToIntFunction<Map<String, Integer>> b) { }
    static final class Fault extends RuntimeException {
        private static final long serialVersionUID = 1;
        final int what, place;
        Fault(int what, int place) { this.what = what; this.place = place; }
    }

    /** What goes back by UNDO. */
    static final class World {
        List<Bird> birds = new ArrayList<>();
        List<Hand> hands = new ArrayList<>();
        List<Sheet> sheets = new ArrayList<>();
        List<int[]> book = new ArrayList<>();
        int state, lifted, hour;

        World copy() {
            World w = new World();
            Map<Object, Object> twin = new HashMap<>();
            for (Bird b : birds) { Bird n = new Bird(); n.kind = b.kind; n.ink = b.ink; n.worn = b.worn; n.gone = b.gone; w.birds.add(n); twin.put(b, n); }
            for (Sheet s : sheets) { Sheet n = new Sheet(); n.length = s.length; n.written = s.written; n.no = s.no; w.sheets.add(n); twin.put(s, n); }
            for (Hand h : hands) {
                Hand n = new Hand(); n.hand = h.hand; n.blots = h.blots; n.signed = h.signed; n.no = h.no;
                n.quill = (Bird) twin.get(h.quill); n.deed = (Sheet) twin.get(h.deed); w.hands.add(n); twin.put(h, n);
            }
            for (int i = 0; i < sheets.size(); i++) w.sheets.get(i).by = (Hand) twin.get(sheets.get(i).by);
            w.book.addAll(book);
            w.state = state; w.lifted = lifted; w.hour = hour;
            return w;
        }
    }

    /** What is told besides. */
    static final class Told {
        List<Rule> law = List.of();
        List<Order> orders = List.of();
        List<int[]> birds = List.of(), after = List.of();
        Map<String, List<Integer>> rows = new TreeMap<>();
        int[][] dots = new int[3][2];

        Told copy() {
            Told t = new Told();
            t.law = law; t.orders = orders; t.birds = birds; t.after = after;
            rows.forEach((k, v) -> t.rows.put(k, new ArrayList<>(v)));
            for (int i = 0; i < 3; i++) t.dots[i] = dots[i].clone();
            return t;
        }
        List<Integer> row(String name) { return rows.computeIfAbsent(name, k -> new ArrayList<>()); }
    }

    World w = new World();
    Told t = new Told();
    World imageWorld;
    Told imageTold;
    final ArrayList<World> past = new ArrayList<>();
    final ArrayList<Byte> tape = new ArrayList<>();
    int fault = 0, place = -1;

    static <T> T at(List<T> l, int i) { return i >= 0 && i < l.size() ? l.get(i) : null; }
    static boolean in(int v, int a, int b) { return a <= v && v <= b; }

    int state(int v) { int was = w.state; w.state = v; past.clear(); return was; }
    int quill(int bird, int ink) {
        if (!in(bird, 0, 7) || !in(ink, 0, 99) || w.birds.size() == 14) return -1;
        Bird b = new Bird(); b.kind = bird; b.ink = ink; w.birds.add(b); past.clear(); return w.birds.size() - 1;
    }
    int clerk(int hand) {
        if (!in(hand, 0, 9) || w.hands.size() == 10) return -1;
        Hand h = new Hand(); h.hand = hand; h.no = w.hands.size(); w.hands.add(h); past.clear(); return h.no;
    }
    int deed(int length) {
        if (!in(length, 1, 99) || w.sheets.size() == 12) return -1;
        Sheet s = new Sheet(); s.length = length; s.no = w.sheets.size(); w.sheets.add(s); past.clear(); return s.no;
    }
    boolean set(int what, int who, int v) {
        if (what == 0 || what == 1) {
            Bird b = at(w.birds, who);
            if (b == null || !in(v, 0, 99)) return false;
            if (what == 0) b.ink = v; else b.worn = v;
        } else {
            Hand h = at(w.hands, who);
            if (what != 2 || h == null || !in(v, 0, 9)) return false;
            h.hand = v;
        }
        past.clear();
        return true;
    }
    void remember() { past.add(w.copy()); if (past.size() > 6) past.remove(0); }
    boolean free(Bird b) { return !b.gone && w.hands.stream().noneMatch(h -> h.quill == b); }
    boolean act(int what, int who, int v) {
        Hand h = at(w.hands, who);
        if (h == null) return false;
        World before = w.copy();
        if (what == 0) {
            Bird b = at(w.birds, v);
            if (h.quill != null || b == null || !free(b)) return false;
            h.quill = b;
        } else if (what == 1) {
            if (h.quill == null) return false;
            h.quill = null;
        } else if (what == 2 && v == -1) {
            if (h.deed == null) return false;
            h.deed = null;
        } else if (what == 2) {
            Sheet s = at(w.sheets, v);
            if (s == null || s.by != null || h.deed == s) return false;
            h.deed = s;
        } else if (what == 3) {
            if (h.quill == null || h.quill.ink == 99) return false;
            h.quill.ink = 99;
        } else if (what == 4) {
            if (h.quill == null || h.quill.worn == 0) return false;
            h.quill.worn = 0;
        } else return false;
        past.add(before);
        if (past.size() > 6) past.remove(0);
        return true;
    }
    int wild(int kind) { int r = 0; for (int[] l : t.birds) if (l[0] == kind) r = l[1]; return r; }
    int fine(int kind) { int r = 5; for (int[] l : t.birds) if (l[0] == kind) r = l[2]; return r; }
    boolean ready(Sheet s) {
        return s.by == null && t.after.stream().allMatch(l -> l[0] != s.no || w.sheets.get(l[1]).by != null);
    }
    int ask(Hand h, String word) {
        Map<String, Integer> m = new HashMap<>();
        m.put("hand", h.hand); m.put("signed", h.signed); m.put("lifted", w.lifted); m.put("hour", w.hour);
        m.put("ink", h.quill == null ? 0 : h.quill.ink);
        m.put("worn", h.quill == null ? 0 : h.quill.worn);
        m.put("bird", h.quill == null ? 0 : h.quill.kind);
        m.put("wild", h.quill == null ? 0 : wild(h.quill.kind));
        m.put("fine", h.quill == null ? 0 : fine(h.quill.kind));
        m.put("left", h.deed == null ? 0 : h.deed.length - h.deed.written);
        m.put("deed", h.deed == null ? -1 : h.deed.no);
        int e = word.equals("writes") ? 1 + m.get("fine") : word.equals("blots") ? 300 - 30 * h.hand : 20 * m.get("wild");
        for (Rule r : t.law) {
            if (r.word.equals(word) && (r.b == null || r.b.applyAsInt(m) != 0)) { e = r.e.applyAsInt(m); break; }
        }
        int most = word.equals("writes") ? 99 : 1000;
        return e < 0 ? 0 : e > most ? most : e;
    }
    boolean chance(int odds, boolean thought) {
        if (thought) return odds >= 500;
        if (odds <= 0) return false;
        w.state = (int) ((w.state * 1664525L + 1013904223L) & 0xffffffffL);
        return ((w.state & 0xffffffffL) / 256) % 1000 < odds;
    }
    void note(int... line) { if (w.book.size() < 150) w.book.add(line); }
    int hour(boolean thought) {
        for (Order o : t.orders) {
            if (o.hour != w.hour) continue;
            Hand h = w.hands.get(o.clerk);
            switch (o.verb) {
                case "take" -> { Bird b = w.birds.get(o.v); if (h.quill == null && free(b)) h.quill = b; }
                case "drop" -> h.quill = null;
                case "write" -> { Sheet s = w.sheets.get(o.v); if (s.by == null) h.deed = s; }
                case "rest" -> h.deed = null;
                case "dip" -> { if (h.quill != null) h.quill.ink = 99; }
                default -> { if (h.quill != null) h.quill.worn = 0; }
            }
        }
        int sum = 0;
        for (Hand h : w.hands) {
            Bird b = h.quill;
            Sheet s = h.deed;
            if (b == null || s == null || !ready(s)) continue;
            if (chance(ask(h, "lifts"), thought)) {
                b.gone = true; w.lifted++; h.quill = null; note(w.hour, 2, h.no, w.birds.indexOf(b));
                continue;
            }
            if (b.ink == 0) continue;
            if (chance(ask(h, "blots"), thought)) {
                h.blots++; b.ink--; note(w.hour, 1, h.no, s.no);
                b.worn = Math.min(99, b.worn + 1);
                continue;
            }
            int asked = ask(h, "writes"), n = 0;
            while (n < asked && b.ink > 0 && s.written < s.length) { n++; b.ink--; s.written++; }
            b.worn = Math.min(99, b.worn + 1);
            sum += n;
            if (n > 0) note(w.hour, 0, h.no, n);
            if (s.written == s.length) {
                s.by = h; h.signed++; note(w.hour, 3, h.no, s.no);
                for (Hand o : w.hands) if (o.deed == s) o.deed = null;
            }
        }
        w.hour++;
        return sum;
    }
    int hours(int n) {
        if (!in(n, 1, 60) || w.hour + n > 9999) return -1;
        int sum = 0;
        while (n-- > 0) { remember(); sum += hour(false); }
        return sum;
    }
    int feed(int... five) {
        if (tape.size() + 20 > 400) return -1;
        for (int f : five) for (int k = 3; k >= 0; k--) tape.add((byte) (f >> 8 * k));
        return tape.size();
    }
    boolean end(int n) {
        if (!in(n, 0, tape.size())) return false;
        while (tape.size() > n) tape.remove(tape.size() - 1);
        return true;
    }

    // The texts: tokens as pieces of text with their places.
    record Token(String s, int place) { }
    List<Token> tokens;
    int next, open, end;
    static final Pattern PIECE = Pattern.compile("[a-zA-Z]+|[0-9]+|[^ \\n]");
    Token tok() { return next < tokens.size() ? tokens.get(next) : new Token("", end); }
    boolean is(String s) { return tok().s.equals(s); }
    void must(String s) { if (!is(s)) throw new Fault(1, tok().place); next++; }
    int num(int least, int most) {
        if (!tok().s.matches("[0-9]{1,4}")) throw new Fault(1, tok().place);
        int v = Integer.parseInt(tok().s);
        if (v < least || v > most) throw new Fault(2, tok().place);
        next++;
        return v;
    }
    String verb(String... words) {
        for (String s : words) if (is(s)) { next++; return s; }
        throw new Fault(1, tok().place);
    }
    int text(int k) {
        byte[] bytes = new byte[tape.size()];
        for (int i = 0; i < bytes.length; i++) bytes[i] = tape.get(i);
        tape.clear();
        fault = 0; place = -1;
        if (!in(k, 0, 3)) return -1;
        String s = new String(bytes, StandardCharsets.ISO_8859_1);
        tokens = new ArrayList<>();
        Matcher m = PIECE.matcher(s);
        while (m.find()) tokens.add(new Token(m.group(), m.start()));
        next = 0; open = 0; end = s.length();
        List<Object> lines = new ArrayList<>();
        try {
            while (next < tokens.size()) {
                Token first = tok();
                String[][] begins = {{"writes", "blots", "lifts"}, {"at"}, {"bird"}, {"deed"}};
                String word = verb(begins[k]);
                if (lines.size() == 16) throw new Fault(3, first.place);
                lines.add(k == 0 ? rule(word) : k == 1 ? order() : k == 2 ? bird() : behind());
                must(";");
            }
        } catch (Fault f) {
            fault = f.what; place = f.place;
            return -1;
        }
        if (k == 0) t.law = lines.stream().map(o -> (Rule) o).toList();
        if (k == 1) { t.orders = lines.stream().map(o -> (Order) o).toList(); past.clear(); }
        if (k == 2) t.birds = lines.stream().map(o -> (int[]) o).toList();
        if (k == 3) t.after = lines.stream().map(o -> (int[]) o).toList();
        return lines.size();
    }
    Order order() {
        int hour = num(0, 999);
        must("clerk");
        int c = num(0, w.hands.size() - 1);
        String v = verb("take", "drop", "write", "rest", "dip", "cut");
        int o = v.equals("take") ? num(0, w.birds.size() - 1) : v.equals("write") ? num(0, w.sheets.size() - 1) : -1;
        return new Order(hour, c, v, o);
    }
    int[] bird() {
        int b = num(0, 7); must("wild"); int wild = num(0, 9); must("fine");
        return new int[] {b, wild, num(0, 9)};
    }
    int[] behind() {
        int d = num(0, w.sheets.size() - 1); must("after");
        return new int[] {d, num(0, d - 1)};
    }
    Rule rule(String word) {
        var e = sum();
        ToIntFunction<Map<String, Integer>> b = null;
        if (is("when")) { next++; b = either(); }
        return new Rule(word, e, b);
    }
    static ToIntFunction<Map<String, Integer>> join(ToIntFunction<Map<String, Integer>> a, ToIntFunction<Map<String, Integer>> b, IntBinaryOperator o) {
        return m -> o.applyAsInt(a.applyAsInt(m), b.applyAsInt(m));
    }
    ToIntFunction<Map<String, Integer>> either() {
        var a = both();
        while (is("or")) { next++; a = join(a, both(), (x, y) -> x != 0 || y != 0 ? 1 : 0); }
        return a;
    }
    ToIntFunction<Map<String, Integer>> both() {
        var a = one();
        while (is("and")) { next++; a = join(a, one(), (x, y) -> x != 0 && y != 0 ? 1 : 0); }
        return a;
    }
    ToIntFunction<Map<String, Integer>> one() {
        if (is("not") || is("(")) {
            boolean not = is("not");
            if (open == 8) throw new Fault(3, tok().place);
            next++;
            open++;
            var a = not ? one() : either();
            if (!not) must(")");
            open--;
            return not ? m -> 1 - a.applyAsInt(m) : a;
        }
        var a = sum();
        String sign = verb("<", "=", ">");
        var b = sum();
        return join(a, b, (x, y) -> (sign.equals("<") ? x < y : sign.equals("=") ? x == y : x > y) ? 1 : 0);
    }
    ToIntFunction<Map<String, Integer>> sum() {
        var a = product();
        while (is("+") || is("-")) {
            boolean plus = is("+");
            next++;
            a = join(a, product(), (x, y) -> plus ? x + y : x - y);
        }
        return a;
    }
    ToIntFunction<Map<String, Integer>> product() {
        var a = factor();
        while (is("*") || is("/")) {
            boolean times = is("*");
            next++;
            if (times) a = join(a, factor(), (x, y) -> x * y);
            else { int part = num(1, 9999); var whole = a; a = m -> whole.applyAsInt(m) / part; }
        }
        return a;
    }
    static final Set<String> FACTS = Set.of("hand", "ink", "worn", "wild", "fine", "left", "signed", "lifted", "bird", "deed", "hour");
    ToIntFunction<Map<String, Integer>> factor() {
        String s = tok().s;
        if (FACTS.contains(s)) { next++; return m -> m.get(s); }
        int v = num(0, 9999);
        return m -> v;
    }

    int fault(int what) { return what == 0 ? fault : what == 1 ? place : -1; }
    int of(int q, int what) {
        Bird b = at(w.birds, q);
        if (b == null || !in(what, 0, 6)) return -2;
        int holder = -1;
        for (Hand h : w.hands) if (h.quill == b) holder = h.no;
        return new int[] {b.kind, b.ink, b.worn, b.gone ? 1 : 0, holder, wild(b.kind), fine(b.kind)}[what];
    }
    int who(int c, int what) {
        Hand h = at(w.hands, c);
        if (h == null || !in(what, 0, 7)) return -2;
        return new int[] {h.hand, h.quill == null ? -1 : w.birds.indexOf(h.quill), h.deed == null ? -1 : h.deed.no, h.blots, h.signed,
            ask(h, "writes"), ask(h, "blots"), ask(h, "lifts")}[what];
    }
    int deedOf(int d, int what) {
        Sheet s = at(w.sheets, d);
        if (s == null || !in(what, 0, 5)) return -2;
        int before = 0, there = 0;
        for (int[] l : t.after) if (l[0] == d) before |= 1 << l[1];
        for (Hand h : w.hands) if (h.deed == s) there |= 1 << h.no;
        return new int[] {s.length, s.written, s.by == null ? -1 : s.by.no, before, ready(s) ? 1 : 0, there}[what];
    }
    int book(int i, int what) {
        int[] l = at(w.book, i);
        return l == null || !in(what, 0, 3) ? -1 : l[what];
    }
    int doneSet() { int s = 0; for (Sheet d : w.sheets) if (d.by != null) s |= 1 << d.no; return s; }
    int goes(int n, int what) {
        if (!in(n, 1, 60) || !in(what, 0, 3)) return -1;
        World real = w;
        w = w.copy();
        for (int i = 0; i < n; i++) hour(true);
        int r = what == 0 ? w.sheets.stream().mapToInt(s -> s.written).sum() : what == 1 ? w.hands.stream().mapToInt(h -> h.blots).sum()
            : what == 2 ? w.lifted : (int) w.sheets.stream().filter(s -> s.by != null).count();
        w = real;
        return r;
    }
    int done(int d) {
        if (at(w.sheets, d) == null) return -1;
        World real = w;
        w = w.copy();
        int r = w.sheets.get(d).by != null ? 0 : -1;
        for (int i = 1; i <= 60 && r < 0; i++) { hour(true); if (w.sheets.get(d).by != null) r = i; }
        w = real;
        return r;
    }
    int ends(int d, int r) {
        Sheet s = w.sheets.get(d);
        if (s.by != null) return 0;
        int from = 0;
        for (int[] l : t.after) if (l[0] == d) from = Math.max(from, ends(l[1], r));
        int hours = 0;
        for (int left = s.length - s.written; left > 0; left -= r) hours++;
        return from + hours;
    }
    int soon(int r, int what) {
        if (!in(r, 1, 99) || !in(what, 0, 1)) return -1;
        int most = 0, which = -1;
        for (Sheet s : w.sheets) if (s.by == null && ends(s.no, r) > most) { most = ends(s.no, r); which = s.no; }
        return what == 0 ? most : which;
    }
    static final Map<String, Integer> FLOCKS = new HashMap<>();
    static int flocks(int n, int used, int last, boolean up) {
        if (used == (1 << n) - 1) return 1;
        String key = n + " " + used + " " + last + " " + up;
        Integer known = FLOCKS.get(key);
        if (known != null) return known;
        int sum = 0;
        for (int i = 0; i < n; i++) if ((used >> i & 1) == 0 && (up ? i > last : i < last)) sum += flocks(n, used | 1 << i, i, !up);
        FLOCKS.put(key, sum);
        return sum;
    }
    int flock(int n, int k) {
        if (!in(n, 0, 12) || k != -1 && !in(k, 0, n - 1)) return -1;
        if (n == 0) return 1;
        int sum = 0;
        for (int i = 0; i < n; i++) if (k == -1 || k == i) sum += flocks(n, 1 << i, i, true);
        return sum;
    }
    int tell(String name, int v, int least, int most, int limit) {
        List<Integer> r = t.row(name);
        if (!in(v, least, most) || r.size() == limit) return -1;
        r.add(v);
        return r.size();
    }
    int empty(String name) { t.row(name).clear(); return 0; }
    int letters(int v) { return v == -1 ? empty("words") : tell("words", v, 1, 20, 10); }
    int page(int width, int what) {
        List<Integer> r = t.row("words");
        if (!in(width, 20, 60) || !in(what, 0, 1)) return -1;
        if (r.isEmpty()) return 0;
        int best = Integer.MAX_VALUE, count = 0;
        for (int breaks = 0; breaks < 1 << r.size() - 1; breaks++) {
            int cost = 0, used = r.get(0), lines = 1;
            boolean fits = true;
            for (int i = 1; i < r.size(); i++) {
                if ((breaks >> i - 1 & 1) == 1) { cost += (width - used) * (width - used); used = r.get(i); lines++; }
                else used += 1 + r.get(i);
                fits &= used <= width;
            }
            if (fits && (cost < best || cost == best && lines < count)) { best = cost; count = lines; }
        }
        return what == 0 ? best : count;
    }
    int stamp(int v) { return v == -1 ? empty("stamps") : tell("stamps", v, 1, 30, 4); }
    int stamps(int what) {
        if (!in(what, 0, 1)) return -1;
        boolean[] can = new boolean[5000];
        can[0] = true;
        for (int v : t.row("stamps")) for (int s = v; s < 5000; s++) can[s] |= can[s - v];
        int unpaid = 0, greatest = 0;
        for (int s = 1; s < 5000; s++) { if (!can[s]) { greatest = s; if (s <= 1000) unpaid++; } }
        return what == 1 ? unpaid : greatest > 4900 ? -1 : greatest;
    }
    static int steps(int n) { return n == 1 ? 0 : 1 + steps(n % 2 == 0 ? n / 2 : 3 * n + 1); }
    static int most(int n) { return n == 1 ? 1 : Math.max(n, most(n % 2 == 0 ? n / 2 : 3 * n + 1)); }
    int scratch(int n, int what) { return !in(n, 1, 9999) || !in(what, 0, 1) ? -1 : what == 0 ? steps(n) : most(n); }
    int threes(int n, int what) {
        if (!in(n, -9999, 9999)) return -2;
        // Every digit one more makes it an ordinary number by threes.
        String s = Integer.toString(n + (59049 - 1) / 2, 3);
        while (s.length() < 10) s = "0" + s;
        List<Integer> digits = new ArrayList<>();
        for (int i = 9; i >= 0; i--) digits.add(s.charAt(i) - '1');
        while (!digits.isEmpty() && digits.get(digits.size() - 1) == 0) digits.remove(digits.size() - 1);
        if (what == 0) return digits.size();
        if (what == 1) return (int) digits.stream().filter(d -> d != 0).count();
        Integer d = what >= 10 ? at(digits, what - 10) : null;
        return d == null ? -2 : d;
    }
    static final List<String> FOLDS = new ArrayList<>(List.of(""));
    static String fold(int k) {
        while (FOLDS.size() <= k) {
            String s = FOLDS.get(FOLDS.size() - 1);
            StringBuilder back = new StringBuilder();
            for (int i = s.length() - 1; i >= 0; i--) back.append(s.charAt(i) == 'L' ? 'R' : 'L');
            FOLDS.add(s + "L" + back);
        }
        return FOLDS.get(k);
    }
    int curve(int k, int n, int what) {
        if (!in(k, 0, 12) || !in(what, 0, 2)) return -10000;
        String turns = fold(k);
        if (what == 2) return in(n, 1, turns.length()) ? (turns.charAt(n - 1) == 'L' ? 1 : 0) : -10000;
        if (!in(n, 0, 1 << k)) return -10000;
        int x = 0, y = 0, d = 0;
        for (int i = 0; i < n; i++) {
            x += new int[] {1, 0, -1, 0}[d];
            y += new int[] {0, 1, 0, -1}[d];
            if (i < turns.length()) d = (d + (turns.charAt(i) == 'L' ? 1 : 3)) % 4;
        }
        return what == 0 ? x : y;
    }
    int quire(int n, int p, int what) {
        if (!in(n, 1, 12) || !in(p, 1, 4 * n) || !in(what, 0, 2)) return -1;
        for (int s = 0; s < n; s++) {
            int[] outside = {4 * n - 2 * s, 2 * s + 1}, inside = {4 * n - 2 * s - 1, 2 * s + 2};
            for (int i = 0; i < 2; i++) {
                if (outside[i] == p) return what == 0 ? outside[1 - i] : what == 1 ? inside[i] : s;
                if (inside[i] == p) return what == 0 ? inside[1 - i] : what == 1 ? outside[i] : s;
            }
        }
        throw new IllegalStateException();
    }
    boolean dot(int i, int x, int y) {
        if (!in(i, 0, 2) || !in(x, 0, 99) || !in(y, 0, 99)) return false;
        t.dots[i] = new int[] {x, y};
        return true;
    }
    static int side(int[] a, int[] b, int x, int y) { return (b[0] - a[0]) * (y - a[1]) - (b[1] - a[1]) * (x - a[0]); }
    int dots(int what) {
        if (!in(what, 0, 2)) return -1;
        int[] a = t.dots[0], b = t.dots[1], c = t.dots[2];
        int twice = Math.abs(side(a, b, c[0], c[1]));
        if (what == 2) return twice;
        int on = 0, inside = 0;
        for (int x = 0; x < 100; x++) for (int y = 0; y < 100; y++) {
            if (side(a, b, x, y) == 0 && in(x, Math.min(a[0], b[0]), Math.max(a[0], b[0])) && in(y, Math.min(a[1], b[1]), Math.max(a[1], b[1]))
                && (!Arrays.equals(a, b) || x == a[0] && y == a[1])) on++;
            int p = Integer.signum(side(a, b, x, y)), q = Integer.signum(side(b, c, x, y)), r = Integer.signum(side(c, a, x, y));
            if (p != 0 && p == q && q == r) inside++;
        }
        return what == 0 ? on : twice == 0 ? 0 : inside;
    }
    int cut(int v) { return v == -1 ? empty("cuts") : t.row("cuts").contains(v) ? -1 : tell("cuts", v, 1, 59, 7); }
    static int least(int from, int to, List<Integer> cuts) {
        int best = -1;
        for (int c : cuts) {
            if (c <= from || c >= to) continue;
            int cost = to - from + least(from, c, cuts) + least(c, to, cuts);
            if (best < 0 || cost < best) best = cost;
        }
        return Math.max(best, 0);
    }
    int planks(int l, int what) {
        if (!in(l, 1, 60) || !in(what, 0, 1)) return -1;
        List<Integer> cuts = t.row("cuts").stream().filter(c -> c < l).sorted().toList();
        int all = least(0, l, cuts);
        if (what == 0) return all;
        for (int c : cuts) if (l + least(0, c, cuts) + least(c, l, cuts) == all) return c;
        return -1;
    }
    int sign(int v) { return v == -1 ? empty("signs") : tell("signs", v, 0, 9, 12); }
    int read(int what) {
        StringBuilder b = new StringBuilder();
        for (int v : t.row("signs")) b.append(v);
        String s = b.toString();
        int n = s.length();
        if (what == 0) {
            int best = 0;
            for (int i = 0; i < n; i++) if ((s.substring(i) + s.substring(0, i)).compareTo(s.substring(best) + s.substring(0, best)) < 0) best = i;
            return best;
        }
        if (what == 1) return n == 0 ? 0 : (s + s).indexOf(s, 1);
        if (!in(what, 100, 112)) return -1;
        if (what == 100) return 1;
        Set<String> rows = new HashSet<>();
        for (int i = 0; i < n; i++) rows.add(s.repeat(14).substring(i, i + what - 100));
        return rows.size();
    }
    int leg(int v) { return v == 0 ? empty("legs") : tell("legs", v, -179, 179, 10); }
    int line(int what) {
        if (!in(what, 0, 2)) return -10000;
        int p = 0, noughts = 0;
        for (int v : t.row("legs")) {
            for (int i = 0; i < Math.abs(v); i++) { p += Integer.signum(v); if (p % 360 == 0) noughts++; }
        }
        return what == 0 ? Math.floorMod(p + 180, 360) - 180 : what == 1 ? Math.floorDiv(p + 180, 360) : noughts;
    }
    static int turned(int n, int b) { return Integer.reverse(n) >>> 32 - b; }
    int water(int n, int b, int what) {
        if (!in(n, 0, 65535) || !in(b, 1, 16) || !in(what, 0, 1)) return -1;
        if (what == 0) return turned(n, b);
        int count = 0;
        for (int i = 0; i <= n && i < 1 << b; i++) if (turned(i, b) == i) count++;
        return count;
    }
    int weight(int v) { return v == -1 ? empty("weights") : tell("weights", v, 1, 9, 8); }
    int lift(int n, int what) {
        if (!in(n, 1, 40) || !in(what, 0, 1)) return -1;
        List<Integer> ring = new ArrayList<>();
        for (int i = 0; i < n; i++) ring.add(i);
        int first = -1;
        List<Integer> weights = t.row("weights");
        while (ring.size() > 1) {
            // The one where one stands is at the front.
            int stands = ring.get(0), weigh = weights.isEmpty() ? 1 : weights.get(stands % weights.size());
            for (int i = 0; i < weigh; i++) ring.add(ring.remove(0));
            int goes = ring.remove(0);
            if (first < 0) first = goes;
        }
        return what == 0 ? ring.get(0) : first;
    }
    int heir(int v) { return v == -1 ? empty("heirs") : tell("heirs", v, 1, 50, 6); }
    int[] shares(int l) {
        List<Integer> r = t.row("heirs");
        int all = r.stream().mapToInt(x -> x).sum();
        int[] s = new int[r.size()];
        List<Integer> order = new ArrayList<>();
        for (int i = 0; i < s.length; i++) { s[i] = l * r.get(i) / all; order.add(i); }
        order.sort(Comparator.comparingInt((Integer i) -> -(l * r.get(i) % all)).thenComparingInt(i -> i));
        int left = l - Arrays.stream(s).sum();
        for (int i = 0; i < left; i++) s[order.get(i)]++;
        return s;
    }
    int seal(int l, int i) {
        if (!in(l, 0, 200) || t.row("heirs").isEmpty() || !in(i, -1, t.row("heirs").size() - 1)) return -1;
        if (i >= 0) return shares(l)[i];
        int[] a = shares(l), b = shares(l + 1);
        for (int h = 0; h < a.length; h++) if (b[h] < a[h]) return h;
        return -1;
    }
    static final int[][] BOXES = {{0, 2, 6, 7}, {1, 3, 7, 8}, {2, 4, 9, 10}, {3, 5, 10, 11}};
    static final Map<Integer, Integer> GAMES = new LinkedHashMap<>();
    static int closed(int drawn) {
        int n = 0;
        for (int[] b : BOXES) { boolean all = true; for (int l : b) all &= (drawn >> l & 1) == 1; if (all) n++; }
        return n;
    }
    static int play(int drawn, int line) {
        int then = drawn | 1 << line, got = closed(then) - closed(drawn);
        return got > 0 ? got + value(then) : -value(then);
    }
    static int value(int drawn) {
        Integer known = GAMES.get(drawn);
        if (known != null) return known;
        int best = drawn == 4095 ? 0 : -99;
        for (int l = 0; l < 12; l++) if ((drawn >> l & 1) == 0) best = Math.max(best, play(drawn, l));
        GAMES.put(drawn, best);
        return best;
    }
    int game(int drawn, int what) {
        if (!in(drawn, 0, 4095) || !in(what, 0, 1)) return -10;
        if (what == 0) return value(drawn);
        for (int l = 0; l < 12; l++) if ((drawn >> l & 1) == 0 && play(drawn, l) == value(drawn)) return l;
        return -1;
    }
    boolean undo() {
        if (past.isEmpty()) return false;
        w = past.remove(past.size() - 1);
        return true;
    }
    boolean image(boolean taken) {
        if (taken) { imageWorld = w.copy(); imageTold = t.copy(); return true; }
        if (imageWorld == null) return false;
        w = imageWorld.copy(); t = imageTold.copy(); past.clear();
        return true;
    }
    int look(int what) {
        if (!in(what, 0, 12)) return -100000;
        return new int[] {w.birds.size(), w.hands.size(), w.sheets.size(), w.lifted, doneSet(), w.hour, w.book.size(), w.state,
            t.law.size(), t.orders.size(), t.birds.size(), t.after.size(), past.size()}[what];
    }
}
