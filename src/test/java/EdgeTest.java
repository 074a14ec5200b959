/** For every sentence of the document that names a bound, an empty or a full state, a wrap-around or a call that is refused: a test of its own. */
public final class EdgeTest {
    public static void main(String[] args) {
        DeskEdges.all();
        HourEdges.all();
        TextEdges.all();
        ThoughtEdges.all();
        PastEdges.all();
        ElseEdges.all();
        for (int p = 1; p <= 45; p++) {
            if (Edges.PROMISES.contains(p)) continue;
            Edges.broken++;
            System.out.println("promise " + p + " has no edge");
        }
        System.out.println(Edges.held + " edges hold, " + Edges.broken + " do not");
        if (Edges.broken != 0) System.exit(1);
    }
}
