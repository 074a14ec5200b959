/** A QuillDesk used as the document lets it be: the 513th call, whose answer is free, is a slip of the test. */
final class Counted {
    static final int CALLS = 512;
    private final QuillDesk desk = new QuillDesk();
    private int calls = 0;

    private QuillDesk used() {
        calls++;
        if (calls > CALLS) throw new IllegalStateException("a test calls one object more than " + CALLS + " times");
        return desk;
    }

    int state(int v) { return used().state(v); }
    int quill(int bird, int ink) { return used().quill(bird, ink); }
    int clerk(int hand) { return used().clerk(hand); }
    int deed(int length) { return used().deed(length); }
    boolean set(int what, int who, int v) { return used().set(what, who, v); }
    boolean act(int what, int who, int v) { return used().act(what, who, v); }
    int hours(int n) { return used().hours(n); }
    int feed(int a, int b, int c, int d, int e) { return used().feed(a, b, c, d, e); }
    boolean end(int n) { return used().end(n); }
    int text(int k) { return used().text(k); }
    int fault(int what) { return used().fault(what); }
    int of(int quill, int what) { return used().of(quill, what); }
    int who(int clerk, int what) { return used().who(clerk, what); }
    int deedOf(int deed, int what) { return used().deedOf(deed, what); }
    int book(int i, int what) { return used().book(i, what); }
    int goes(int n, int what) { return used().goes(n, what); }
    int done(int deed) { return used().done(deed); }
    int soon(int r, int what) { return used().soon(r, what); }
    int flock(int n, int k) { return used().flock(n, k); }
    int letters(int v) { return used().letters(v); }
    int page(int w, int what) { return used().page(w, what); }
    int stamp(int v) { return used().stamp(v); }
    int stamps(int what) { return used().stamps(what); }
    int scratch(int n, int what) { return used().scratch(n, what); }
    int threes(int n, int what) { return used().threes(n, what); }
    int curve(int k, int n, int what) { return used().curve(k, n, what); }
    int quire(int n, int p, int what) { return used().quire(n, p, what); }
    boolean dot(int i, int x, int y) { return used().dot(i, x, y); }
    int dots(int what) { return used().dots(what); }
    int cut(int v) { return used().cut(v); }
    int planks(int l, int what) { return used().planks(l, what); }
    int sign(int v) { return used().sign(v); }
    int read(int what) { return used().read(what); }
    int leg(int degrees) { return used().leg(degrees); }
    int line(int what) { return used().line(what); }
    int water(int n, int b, int what) { return used().water(n, b, what); }
    int weight(int v) { return used().weight(v); }
    int lift(int n, int what) { return used().lift(n, what); }
    int heir(int weight) { return used().heir(weight); }
    int seal(int l, int i) { return used().seal(l, i); }
    int game(int drawn, int what) { return used().game(drawn, what); }
    boolean undo() { return used().undo(); }
    boolean image(boolean taken) { return used().image(taken); }
    int look(int what) { return used().look(what); }
}
