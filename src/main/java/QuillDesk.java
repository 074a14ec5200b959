/**
 * The desk of a firm of conveyancers whose quills still fly. What each call answers stands in the
 * document, promise by promise. All rows are made with the object and used again: no call makes
 * an object.
 */
public final class QuillDesk {
    public static final int NONE = -1;

    private static final int MOST_QUILLS = 14;
    private static final int MOST_CLERKS = 10;
    private static final int MOST_DEEDS = 12;
    private static final int MOST_BIRD = 7;
    private static final int MOST_HAND = 9;
    private static final int FULL = 99;
    private static final int MOST_HOUR = 9999;
    private static final int MOST_HOURS = 60;
    private static final int MOST_NOTES = 150;
    private static final int MOST_LINES = 16;
    private static final int MOST_TAPE = 400;
    private static final int MOST_KEPT = 6;
    private static final int MOST_OPEN = 8;
    private static final int STACK = 64;

    private static final int TAKE_QUILL = 0;
    private static final int DROP_QUILL = 1;
    private static final int GO_TO_DEED = 2;
    private static final int DIP_QUILL = 3;
    private static final int CUT_QUILL = 4;

    private static final int WROTE = 0;
    private static final int BLOTTED = 1;
    private static final int FLEW = 2;
    private static final int SIGNED_DEED = 3;

    private static final int CERTAIN = 1000;
    private static final int EVEN_ODDS = 500;

    // A token is a NUMBER as it is (0 .. 9999), a word by its place in WORDS behind FIRST_WORD,
    // a sign by its byte behind FIRST_SIGN; so THE LAW can be kept as its own tokens, turned.
    private static final int END = -2;
    private static final int BAD = -1;
    private static final int FIRST_WORD = 10000;
    private static final int FIRST_SIGN = 20000;
    private static final String WORDS =
            "hand ink worn wild fine left signed lifted bird deed hour writes blots lifts when or and not at clerk take drop write rest dip cut after";
    private static final int HAND = FIRST_WORD;
    private static final int INK = FIRST_WORD + 1;
    private static final int WORN = FIRST_WORD + 2;
    private static final int WILD = FIRST_WORD + 3;
    private static final int FINE = FIRST_WORD + 4;
    private static final int LEFT = FIRST_WORD + 5;
    private static final int SIGNED = FIRST_WORD + 6;
    private static final int LIFTED = FIRST_WORD + 7;
    private static final int BIRD = FIRST_WORD + 8;
    private static final int DEED = FIRST_WORD + 9;
    private static final int HOUR = FIRST_WORD + 10;
    private static final int WRITES = FIRST_WORD + 11;
    private static final int BLOTS = FIRST_WORD + 12;
    private static final int LIFTS = FIRST_WORD + 13;
    private static final int WHEN = FIRST_WORD + 14;
    private static final int OR = FIRST_WORD + 15;
    private static final int AND = FIRST_WORD + 16;
    private static final int NOT = FIRST_WORD + 17;
    private static final int AT = FIRST_WORD + 18;
    private static final int CLERK = FIRST_WORD + 19;
    private static final int TAKE = FIRST_WORD + 20;
    private static final int DROP = FIRST_WORD + 21;
    private static final int WRITE = FIRST_WORD + 22;
    private static final int REST = FIRST_WORD + 23;
    private static final int DIP = FIRST_WORD + 24;
    private static final int CUT = FIRST_WORD + 25;
    private static final int AFTER = FIRST_WORD + 26;
    private static final int FACTS = HOUR - HAND + 1;
    private static final int PLUS = FIRST_SIGN + '+';
    private static final int MINUS = FIRST_SIGN + '-';
    private static final int TIMES = FIRST_SIGN + '*';
    private static final int PARTS = FIRST_SIGN + '/';
    private static final int LESS = FIRST_SIGN + '<';
    private static final int SAME = FIRST_SIGN + '=';
    private static final int MORE = FIRST_SIGN + '>';
    private static final int OPENS = FIRST_SIGN + '(';
    private static final int CLOSES = FIRST_SIGN + ')';
    private static final int CLOSE_LINE = FIRST_SIGN + ';';

    private static final int NO_STAND = 1;
    private static final int BEYOND = 2;
    private static final int TOO_MANY = 3;

    private static final int HUGE = 1000000;
    private static final int LONGEST_ROW = 12;
    private static final int MOST_SUM = 1000;
    private static final int MOST_RING = 40;
    private static final int MOST_FLOCK = 12;
    private static final int MOST_CURVE = 12;
    private static final int MOST_PLANK = 60;
    private static final int HALF_ROUND = 180;
    private static final int BOX_LINES = 12;
    private static final int BOX_STATES = 4096;
    // The four lines of each box: upper left, upper right, lower left, lower right.
    private static final int[] BOXES = {197, 394, 1556, 3112};

    private final Desk desk;
    private final Desk picture;
    private boolean pictured;
    private final Past past;
    private final Firm mind;
    private final Reader reader;
    private final Thought thought;
    private final Boxes boxes;

    public QuillDesk() {
        desk = new Desk();
        picture = new Desk();
        pictured = false;
        past = new Past();
        mind = new Firm();
        reader = new Reader();
        thought = new Thought();
        boxes = new Boxes();
    }

    public int state(int v) {
        int was = desk.firm.draws;
        desk.firm.draws = v;
        past.forget();
        return was;
    }

    public int quill(int bird, int ink) {
        Firm f = desk.firm;
        int q = f.quills;
        if (!within(bird, 0, MOST_BIRD) || !within(ink, 0, FULL) || q < 0 || q >= MOST_QUILLS) {
            return NONE;
        }
        f.bird[q] = bird;
        f.ink[q] = ink;
        f.worn[q] = 0;
        f.gone[q] = 0;
        f.quills = q + 1;
        past.forget();
        return q;
    }

    public int clerk(int hand) {
        Firm f = desk.firm;
        int c = f.clerks;
        if (!within(hand, 0, MOST_HAND) || c < 0 || c >= MOST_CLERKS) {
            return NONE;
        }
        f.hand[c] = hand;
        f.holds[c] = NONE;
        f.at[c] = NONE;
        f.blots[c] = 0;
        f.signed[c] = 0;
        f.clerks = c + 1;
        past.forget();
        return c;
    }

    public int deed(int length) {
        Firm f = desk.firm;
        int d = f.deeds;
        if (!within(length, 1, FULL) || d < 0 || d >= MOST_DEEDS) {
            return NONE;
        }
        f.length[d] = length;
        f.written[d] = 0;
        f.by[d] = NONE;
        f.deeds = d + 1;
        past.forget();
        return d;
    }

    public boolean set(int what, int who, int v) {
        Firm f = desk.firm;
        if (what == 0 && f.hasQuill(who) && within(v, 0, FULL)) {
            f.ink[who] = v;
        } else if (what == 1 && f.hasQuill(who) && within(v, 0, FULL)) {
            f.worn[who] = v;
        } else if (what == 2 && f.hasClerk(who) && within(v, 0, MOST_HAND)) {
            f.hand[who] = v;
        } else {
            return false;
        }
        past.forget();
        return true;
    }

    public boolean act(int what, int who, int v) {
        Firm f = desk.firm;
        if (!f.canAct(what, who, v)) {
            return false;
        }
        past.keep(f, desk.book.size);
        f.doAct(what, who, v);
        return true;
    }

    public int hours(int n) {
        if (!within(n, 1, MOST_HOURS) || desk.firm.hour > MOST_HOUR - n) {
            return NONE;
        }
        int lines = 0;
        for (int i = 0; i < n; i++) {
            past.keep(desk.firm, desk.book.size);
            lines += desk.passHour(desk.firm, false);
        }
        return lines;
    }

    public int feed(int a, int b, int c, int d, int e) {
        if (reader.length > MOST_TAPE - 20) {
            return NONE;
        }
        reader.append(a);
        reader.append(b);
        reader.append(c);
        reader.append(d);
        reader.append(e);
        return reader.length;
    }

    public boolean end(int n) {
        if (!within(n, 0, reader.length)) {
            return false;
        }
        reader.length = n;
        return true;
    }

    public int text(int k) {
        boolean good = reader.understand(k, desk.firm);
        reader.length = 0;
        if (!good) {
            return NONE;
        }
        if (k == 0) {
            desk.law.copyFrom(reader.law);
            return desk.law.lines.size;
        }
        Text told = k == 1 ? desk.orders : k == 2 ? desk.birds : desk.after;
        told.copyFrom(reader.lines);
        if (k == 1) {
            past.forget();
        }
        return told.size;
    }

    public int fault(int what) {
        if (what == 0) {
            return reader.fault;
        }
        return what == 1 ? reader.faultPlace : NONE;
    }

    public int of(int quill, int what) {
        Firm f = desk.firm;
        if (!f.hasQuill(quill)) {
            return NONE - 1;
        }
        switch (what) {
            case 0: return f.bird[quill];
            case 1: return f.ink[quill];
            case 2: return f.worn[quill];
            case 3: return f.gone[quill];
            case 4: return f.holder(quill);
            case 5: return desk.wildness(f.bird[quill]);
            case 6: return desk.fineness(f.bird[quill]);
            default: return NONE - 1;
        }
    }

    public int who(int clerk, int what) {
        Firm f = desk.firm;
        if (!f.hasClerk(clerk)) {
            return NONE - 1;
        }
        switch (what) {
            case 0: return f.hand[clerk];
            case 1: return f.holds[clerk];
            case 2: return f.at[clerk];
            case 3: return f.blots[clerk];
            case 4: return f.signed[clerk];
            case 5: return desk.ask(f, clerk, WRITES);
            case 6: return desk.ask(f, clerk, BLOTS);
            case 7: return desk.ask(f, clerk, LIFTS);
            default: return NONE - 1;
        }
    }

    public int deedOf(int deed, int what) {
        Firm f = desk.firm;
        if (!f.hasDeed(deed)) {
            return NONE - 1;
        }
        switch (what) {
            case 0: return f.length[deed];
            case 1: return f.written[deed];
            case 2: return f.by[deed];
            case 3: return desk.deedsBefore(deed);
            case 4: return desk.canBeWritten(f, deed) ? 1 : 0;
            case 5: return f.clerksAt(deed);
            default: return NONE - 1;
        }
    }

    public int book(int i, int what) {
        Book b = desk.book;
        if (i < 0 || i >= b.size || i >= MOST_NOTES) {
            return NONE;
        }
        switch (what) {
            case 0: return b.hour[i];
            case 1: return b.what[i];
            case 2: return b.who[i];
            case 3: return b.much[i];
            default: return NONE;
        }
    }

    public int goes(int n, int what) {
        if (!within(n, 1, MOST_HOURS) || !within(what, 0, 3)) {
            return NONE;
        }
        mind.copyFrom(desk.firm);
        for (int i = 0; i < n; i++) {
            desk.passHour(mind, true);
        }
        switch (what) {
            case 0: return mind.allWritten();
            case 1: return mind.allBlots();
            case 2: return mind.lifted;
            default: return Integer.bitCount(mind.doneSet());
        }
    }

    public int done(int deed) {
        if (!desk.firm.hasDeed(deed)) {
            return NONE;
        }
        mind.copyFrom(desk.firm);
        for (int i = 0; i < MOST_HOURS; i++) {
            if (mind.isDone(deed)) {
                return i;
            }
            desk.passHour(mind, true);
        }
        return mind.isDone(deed) ? MOST_HOURS : NONE;
    }

    public int soon(int r, int what) {
        if (!within(r, 1, FULL) || !within(what, 0, 1)) {
            return NONE;
        }
        return desk.soonest(r, thought.first, what);
    }

    public int flock(int n, int k) {
        if (!within(n, 0, MOST_FLOCK) || !within(k, NONE, n - 1)) {
            return NONE;
        }
        return thought.countFlock(n, k);
    }

    public int letters(int v) {
        return v == NONE ? desk.words.clear() : desk.words.tell(v, 1, 20);
    }

    public int page(int w, int what) {
        if (!within(w, 20, 60) || !within(what, 0, 1)) {
            return NONE;
        }
        return thought.setPage(desk.words, w, what);
    }

    public int stamp(int v) {
        return v == NONE ? desk.stampRow.clear() : desk.stampRow.tell(v, 1, 30);
    }

    public int stamps(int what) {
        if (!within(what, 0, 1)) {
            return NONE;
        }
        return thought.payStamps(desk.stampRow, what);
    }

    public int scratch(int n, int what) {
        if (!within(n, 1, 9999) || !within(what, 0, 1)) {
            return NONE;
        }
        return Thought.scratchDown(n, what);
    }

    public int threes(int n, int what) {
        if (!within(n, -9999, 9999) || what < 0) {
            return NONE - 1;
        }
        return Thought.weighByThrees(n, what);
    }

    public int curve(int k, int n, int what) {
        if (!within(k, 0, MOST_CURVE)) {
            return NONE - 9999;
        }
        int steps = 1 << k;
        if (what == 2) {
            return within(n, 1, steps - 1) ? (Thought.turnsLeft(n) ? 1 : 0) : NONE - 9999;
        }
        if (!within(what, 0, 1) || !within(n, 0, steps)) {
            return NONE - 9999;
        }
        return Thought.walkCurve(n, what);
    }

    public int quire(int n, int p, int what) {
        if (!within(n, 1, 12) || !within(p, 1, 4 * n)) {
            return NONE;
        }
        switch (what) {
            case 0: return 4 * n + 1 - p;
            case 1: return p % 2 == 0 ? p - 1 : p + 1;
            case 2: return p <= 2 * n ? (p - 1) / 2 : (4 * n - p) / 2;
            default: return NONE;
        }
    }

    public boolean dot(int i, int x, int y) {
        if (!within(i, 0, 2) || !within(x, 0, FULL) || !within(y, 0, FULL)) {
            return false;
        }
        desk.dotX[i] = x;
        desk.dotY[i] = y;
        return true;
    }

    public int dots(int what) {
        if (!within(what, 0, 2)) {
            return NONE;
        }
        return Thought.countDots(desk.dotX, desk.dotY, what);
    }

    public int cut(int v) {
        if (v == NONE) {
            return desk.places.clear();
        }
        return desk.places.has(v) ? NONE : desk.places.tell(v, 1, 59);
    }

    public int planks(int l, int what) {
        if (!within(l, 1, MOST_PLANK) || !within(what, 0, 1)) {
            return NONE;
        }
        return thought.cutPlank(desk.places, l, what);
    }

    public int sign(int v) {
        return v == NONE ? desk.signs.clear() : desk.signs.tell(v, 0, 9);
    }

    public int read(int what) {
        switch (what) {
            case 0: return Thought.leastPlace(desk.signs);
            case 1: return Thought.sameAgain(desk.signs);
            default: return within(what, 100, 112) ? Thought.unlikeRows(desk.signs, what - 100) : NONE;
        }
    }

    public int leg(int degrees) {
        return degrees == 0 ? desk.legs.clear() : desk.legs.tell(degrees, 1 - HALF_ROUND, HALF_ROUND - 1);
    }

    public int line(int what) {
        if (!within(what, 0, 2)) {
            return NONE - 9999;
        }
        return Thought.sail(desk.legs, what);
    }

    public int water(int n, int b, int what) {
        if (!within(n, 0, 65535) || !within(b, 1, 16) || !within(what, 0, 1)) {
            return NONE;
        }
        return what == 0 ? Thought.mirror(n, b) : Thought.countMirrored(n, b);
    }

    public int weight(int v) {
        return v == NONE ? desk.weights.clear() : desk.weights.tell(v, 1, 9);
    }

    public int lift(int n, int what) {
        if (!within(n, 1, MOST_RING) || !within(what, 0, 1)) {
            return NONE;
        }
        return thought.countOut(desk.weights, n, what);
    }

    public int heir(int weight) {
        return weight == NONE ? desk.heirs.clear() : desk.heirs.tell(weight, 1, 50);
    }

    public int seal(int l, int i) {
        if (!within(l, 0, 200) || !within(i, NONE, desk.heirs.size - 1)) {
            return NONE;
        }
        return i == NONE ? thought.whoLoses(desk.heirs, l) : thought.shareOf(desk.heirs, l, i);
    }

    public int game(int drawn, int what) {
        if (!within(drawn, 0, BOX_STATES - 1) || !within(what, 0, 1)) {
            return NONE - 9;
        }
        return what == 0 ? boxes.worth(drawn) : boxes.bestLine(drawn);
    }

    public boolean undo() {
        return past.goBack(desk.firm, desk.book);
    }

    public boolean image(boolean taken) {
        if (taken) {
            picture.copyFrom(desk);
            pictured = true;
            return true;
        }
        if (!pictured) {
            return false;
        }
        desk.copyFrom(picture);
        past.forget();
        return true;
    }

    public int look(int what) {
        Firm f = desk.firm;
        switch (what) {
            case 0: return f.quills;
            case 1: return f.clerks;
            case 2: return f.deeds;
            case 3: return f.lifted;
            case 4: return f.doneSet();
            case 5: return f.hour;
            case 6: return desk.book.size;
            case 7: return f.draws;
            case 8: return desk.law.lines.size;
            case 9: return desk.orders.size;
            case 10: return desk.birds.size;
            case 11: return desk.after.size;
            case 12: return past.size;
            default: return NONE - 99999;
        }
    }

    private static boolean within(int v, int least, int most) {
        return v >= least && v <= most;
    }

    private static final class Row {
        final int[] values;
        final int limit;
        int size;

        Row(int limit) {
            this.values = new int[LONGEST_ROW];
            this.limit = Math.min(limit, LONGEST_ROW);
            this.size = 0;
        }

        int tell(int v, int least, int most) {
            if (!within(v, least, most) || size < 0 || size >= limit) {
                return NONE;
            }
            values[size] = v;
            size++;
            return size;
        }

        int clear() {
            size = 0;
            return 0;
        }

        boolean has(int v) {
            for (int i = 0; i < size; i++) {
                if (values[i] == v) {
                    return true;
                }
            }
            return false;
        }

        int sum() {
            int sum = 0;
            for (int i = 0; i < size; i++) {
                sum += values[i];
            }
            return sum;
        }

        int round(int i) {
            return size > 0 && i >= 0 ? values[i % size] : 0;
        }

        void copyFrom(Row other) {
            System.arraycopy(other.values, 0, values, 0, LONGEST_ROW);
            size = other.size;
        }
    }

    /** The lines of a text, up to four numbers each; what they mean is the text's. */
    private static final class Text {
        final int[] first;
        final int[] second;
        final int[] third;
        final int[] fourth;
        int size;

        Text() {
            first = new int[MOST_LINES];
            second = new int[MOST_LINES];
            third = new int[MOST_LINES];
            fourth = new int[MOST_LINES];
            size = 0;
        }

        void add(int a, int b, int c, int d) {
            if (size < 0 || size >= MOST_LINES) {
                return;
            }
            first[size] = a;
            second[size] = b;
            third[size] = c;
            fourth[size] = d;
            size++;
        }

        void copyFrom(Text other) {
            System.arraycopy(other.first, 0, first, 0, MOST_LINES);
            System.arraycopy(other.second, 0, second, 0, MOST_LINES);
            System.arraycopy(other.third, 0, third, 0, MOST_LINES);
            System.arraycopy(other.fourth, 0, fourth, 0, MOST_LINES);
            size = other.size;
        }
    }

    /**
     * THE LAW as tokens with each operator behind what it joins, so that telling it needs no
     * recursion. A line: its word, where its E begins, where its B begins, where it ends.
     */
    private static final class Law {
        final Text lines;
        final int[] code;
        int size;
        final int[] facts;
        final int[] stack;

        Law() {
            lines = new Text();
            code = new int[MOST_TAPE];
            size = 0;
            facts = new int[FACTS];
            stack = new int[STACK];
        }

        void copyFrom(Law other) {
            lines.copyFrom(other.lines);
            System.arraycopy(other.code, 0, code, 0, MOST_TAPE);
            size = other.size;
        }

        void clear() {
            lines.size = 0;
            size = 0;
        }

        void put(int token) {
            if (size >= 0 && size < MOST_TAPE) {
                code[size] = token;
                size++;
            }
        }

        int fact(int word) {
            int i = word - HAND;
            return i >= 0 && i < FACTS ? facts[i] : 0;
        }

        void know(int word, int v) {
            int i = word - HAND;
            if (i >= 0 && i < FACTS) {
                facts[i] = v;
            }
        }

        int tell(int word) {
            for (int i = 0; i < lines.size; i++) {
                int middle = lines.third[i];
                int end = lines.fourth[i];
                if (lines.first[i] == word && (middle == end || work(middle, end) != 0)) {
                    return work(lines.second[i], middle);
                }
            }
            if (word == WRITES) {
                return 1 + fact(FINE);
            }
            return word == BLOTS ? 300 - 30 * fact(HAND) : 20 * fact(WILD);
        }

        private int work(int from, int to) {
            int top = 0;
            for (int i = Math.max(0, from); i < to && i < MOST_TAPE; i++) {
                int token = code[i];
                if (token == NOT) {
                    if (top >= 1) {
                        stack[top - 1] = stack[top - 1] == 0 ? 1 : 0;
                    }
                } else if (token > HOUR) {
                    if (top >= 2) {
                        top--;
                        stack[top - 1] = join(token, stack[top - 1], stack[top]);
                    }
                } else if (top < STACK) {
                    stack[top] = token < FIRST_WORD ? token : fact(token);
                    top++;
                }
            }
            return top > 0 ? stack[0] : 0;
        }

        private static int join(int token, int a, int b) {
            switch (token) {
                case PLUS: return a + b;
                case MINUS: return a - b;
                case TIMES: return a * b;
                case PARTS: return b == 0 ? 0 : a / b;
                case LESS: return a < b ? 1 : 0;
                case SAME: return a == b ? 1 : 0;
                case MORE: return a > b ? 1 : 0;
                case AND: return a & b;
                case OR: return a | b;
                default: return 0;
            }
        }
    }

    /** Apart from the rest because an HOUR changes just this and THE BOOK: kept for UNDO, copied for thought. */
    private static final class Firm {
        int draws;
        int lifted;
        int hour;
        int quills;
        int clerks;
        int deeds;
        final int[] bird;
        final int[] ink;
        final int[] worn;
        final int[] gone;
        final int[] hand;
        final int[] holds;
        final int[] at;
        final int[] blots;
        final int[] signed;
        final int[] length;
        final int[] written;
        final int[] by;

        Firm() {
            bird = new int[MOST_QUILLS];
            ink = new int[MOST_QUILLS];
            worn = new int[MOST_QUILLS];
            gone = new int[MOST_QUILLS];
            hand = new int[MOST_CLERKS];
            holds = new int[MOST_CLERKS];
            at = new int[MOST_CLERKS];
            blots = new int[MOST_CLERKS];
            signed = new int[MOST_CLERKS];
            length = new int[MOST_DEEDS];
            written = new int[MOST_DEEDS];
            by = new int[MOST_DEEDS];
        }

        void copyFrom(Firm other) {
            draws = other.draws;
            lifted = other.lifted;
            hour = other.hour;
            quills = other.quills;
            clerks = other.clerks;
            deeds = other.deeds;
            System.arraycopy(other.bird, 0, bird, 0, MOST_QUILLS);
            System.arraycopy(other.ink, 0, ink, 0, MOST_QUILLS);
            System.arraycopy(other.worn, 0, worn, 0, MOST_QUILLS);
            System.arraycopy(other.gone, 0, gone, 0, MOST_QUILLS);
            System.arraycopy(other.hand, 0, hand, 0, MOST_CLERKS);
            System.arraycopy(other.holds, 0, holds, 0, MOST_CLERKS);
            System.arraycopy(other.at, 0, at, 0, MOST_CLERKS);
            System.arraycopy(other.blots, 0, blots, 0, MOST_CLERKS);
            System.arraycopy(other.signed, 0, signed, 0, MOST_CLERKS);
            System.arraycopy(other.length, 0, length, 0, MOST_DEEDS);
            System.arraycopy(other.written, 0, written, 0, MOST_DEEDS);
            System.arraycopy(other.by, 0, by, 0, MOST_DEEDS);
        }

        boolean hasQuill(int q) {
            return q >= 0 && q < quills && q < MOST_QUILLS;
        }

        boolean hasClerk(int c) {
            return c >= 0 && c < clerks && c < MOST_CLERKS;
        }

        boolean hasDeed(int d) {
            return d >= 0 && d < deeds && d < MOST_DEEDS;
        }

        boolean isDone(int d) {
            return hasDeed(d) && by[d] != NONE;
        }

        int linesLeft(int d) {
            return hasDeed(d) ? length[d] - written[d] : 0;
        }

        int holder(int q) {
            for (int c = 0; c < clerks; c++) {
                if (holds[c] == q) {
                    return c;
                }
            }
            return NONE;
        }

        int doneSet() {
            int set = 0;
            for (int d = 0; d < deeds; d++) {
                if (by[d] != NONE) {
                    set |= 1 << d;
                }
            }
            return set;
        }

        int clerksAt(int d) {
            int set = 0;
            for (int c = 0; c < clerks; c++) {
                if (at[c] == d) {
                    set |= 1 << c;
                }
            }
            return set;
        }

        int allWritten() {
            int sum = 0;
            for (int d = 0; d < deeds; d++) {
                sum += written[d];
            }
            return sum;
        }

        int allBlots() {
            int sum = 0;
            for (int c = 0; c < clerks; c++) {
                sum += blots[c];
            }
            return sum;
        }

        /** Whether it can be done and would change anything; orders and hands ask alike. */
        boolean canAct(int what, int c, int v) {
            if (!hasClerk(c)) {
                return false;
            }
            int q = holds[c];
            switch (what) {
                case TAKE_QUILL: return q == NONE && hasQuill(v) && gone[v] == 0 && holder(v) == NONE;
                case DROP_QUILL: return q != NONE;
                case GO_TO_DEED: return at[c] != v && (v == NONE || hasDeed(v) && by[v] == NONE);
                case DIP_QUILL: return hasQuill(q) && ink[q] < FULL;
                case CUT_QUILL: return hasQuill(q) && worn[q] > 0;
                default: return false;
            }
        }

        void doAct(int what, int c, int v) {
            if (!hasClerk(c)) {
                return;
            }
            int q = holds[c];
            if (what == TAKE_QUILL) {
                holds[c] = v;
            } else if (what == DROP_QUILL) {
                holds[c] = NONE;
            } else if (what == GO_TO_DEED) {
                at[c] = v;
            } else if (what == DIP_QUILL && hasQuill(q)) {
                ink[q] = FULL;
            } else if (what == CUT_QUILL && hasQuill(q)) {
                worn[q] = 0;
            }
        }

        int draw(int m) {
            draws = draws * 1664525 + 1013904223;
            return m > 0 ? (draws >>> 8) % m : 0;
        }

        /** In thought the even odds stand for a DRAW. */
        boolean falls(int odds, boolean inThought) {
            if (inThought) {
                return odds >= EVEN_ODDS;
            }
            return odds > 0 && draw(CERTAIN) < odds;
        }

        void wear(int q) {
            if (hasQuill(q) && worn[q] < FULL) {
                worn[q]++;
            }
        }

        void finish(int d, int c) {
            if (!hasDeed(d) || !hasClerk(c)) {
                return;
            }
            by[d] = c;
            signed[c]++;
            for (int i = 0; i < clerks; i++) {
                if (at[i] == d) {
                    at[i] = NONE;
                }
            }
        }
    }

    private static final class Book {
        final int[] hour;
        final int[] what;
        final int[] who;
        final int[] much;
        int size;

        Book() {
            hour = new int[MOST_NOTES];
            what = new int[MOST_NOTES];
            who = new int[MOST_NOTES];
            much = new int[MOST_NOTES];
            size = 0;
        }

        void add(int atHour, int kind, int c, int amount) {
            if (size < 0 || size >= MOST_NOTES) {
                return;
            }
            hour[size] = atHour;
            what[size] = kind;
            who[size] = c;
            much[size] = amount;
            size++;
        }

        void copyFrom(Book other) {
            System.arraycopy(other.hour, 0, hour, 0, MOST_NOTES);
            System.arraycopy(other.what, 0, what, 0, MOST_NOTES);
            System.arraycopy(other.who, 0, who, 0, MOST_NOTES);
            System.arraycopy(other.much, 0, much, 0, MOST_NOTES);
            size = other.size;
        }
    }

    /** Apart from the rest because THE IMAGE holds just this. */
    private static final class Desk {
        final Firm firm;
        final Book book;
        final Law law;
        final Text orders;
        final Text birds;
        final Text after;
        final Row words;
        final Row stampRow;
        final int[] dotX;
        final int[] dotY;
        final Row places;
        final Row signs;
        final Row legs;
        final Row weights;
        final Row heirs;

        Desk() {
            firm = new Firm();
            book = new Book();
            law = new Law();
            orders = new Text();
            birds = new Text();
            after = new Text();
            words = new Row(10);
            stampRow = new Row(4);
            dotX = new int[3];
            dotY = new int[3];
            places = new Row(7);
            signs = new Row(12);
            legs = new Row(10);
            weights = new Row(8);
            heirs = new Row(6);
        }

        void copyFrom(Desk other) {
            firm.copyFrom(other.firm);
            book.copyFrom(other.book);
            law.copyFrom(other.law);
            orders.copyFrom(other.orders);
            birds.copyFrom(other.birds);
            after.copyFrom(other.after);
            words.copyFrom(other.words);
            stampRow.copyFrom(other.stampRow);
            System.arraycopy(other.dotX, 0, dotX, 0, 3);
            System.arraycopy(other.dotY, 0, dotY, 0, 3);
            places.copyFrom(other.places);
            signs.copyFrom(other.signs);
            legs.copyFrom(other.legs);
            weights.copyFrom(other.weights);
            heirs.copyFrom(other.heirs);
        }

        int wildness(int bird) {
            for (int i = birds.size - 1; i >= 0; i--) {
                if (birds.first[i] == bird) {
                    return birds.second[i];
                }
            }
            return 0;
        }

        int fineness(int bird) {
            for (int i = birds.size - 1; i >= 0; i--) {
                if (birds.first[i] == bird) {
                    return birds.third[i];
                }
            }
            return 5;
        }

        int deedsBefore(int deed) {
            int set = 0;
            for (int i = 0; i < after.size; i++) {
                if (after.first[i] == deed) {
                    set |= 1 << after.second[i];
                }
            }
            return set;
        }

        boolean canBeWritten(Firm f, int deed) {
            return f.hasDeed(deed) && !f.isDone(deed) && (deedsBefore(deed) & ~f.doneSet()) == 0;
        }

        /** What THE LAW tells of a clerk for a word, held to its bounds. */
        int ask(Firm f, int clerk, int word) {
            if (!f.hasClerk(clerk)) {
                return 0;
            }
            learn(f, clerk);
            int most = word == WRITES ? FULL : CERTAIN;
            return Math.max(0, Math.min(most, law.tell(word)));
        }

        private void learn(Firm f, int clerk) {
            int q = f.holds[clerk];
            boolean holding = f.hasQuill(q);
            law.know(HAND, f.hand[clerk]);
            law.know(INK, holding ? f.ink[q] : 0);
            law.know(WORN, holding ? f.worn[q] : 0);
            law.know(WILD, holding ? wildness(f.bird[q]) : 0);
            law.know(FINE, holding ? fineness(f.bird[q]) : 0);
            law.know(LEFT, f.linesLeft(f.at[clerk]));
            law.know(SIGNED, f.signed[clerk]);
            law.know(LIFTED, f.lifted);
            law.know(BIRD, holding ? f.bird[q] : 0);
            law.know(DEED, f.at[clerk]);
            law.know(HOUR, f.hour);
        }

        /** One HOUR over the firm, the real one or one in thought: how many lines. */
        int passHour(Firm f, boolean inThought) {
            for (int i = 0; i < orders.size; i++) {
                if (orders.first[i] == f.hour && f.canAct(orders.third[i], orders.second[i], orders.fourth[i])) {
                    f.doAct(orders.third[i], orders.second[i], orders.fourth[i]);
                }
            }
            int lines = 0;
            for (int c = 0; c < f.clerks; c++) {
                lines += takeTurn(f, c, inThought);
            }
            f.hour++;
            return lines;
        }

        private int takeTurn(Firm f, int c, boolean inThought) {
            if (!f.hasClerk(c)) {
                return 0;
            }
            int q = f.holds[c];
            int d = f.at[c];
            if (!f.hasQuill(q) || !f.hasDeed(d) || !canBeWritten(f, d)) {
                return 0;
            }
            if (f.falls(ask(f, c, LIFTS), inThought)) {
                f.gone[q] = 1;
                f.lifted++;
                f.holds[c] = NONE;
                note(f, FLEW, c, q, inThought);
                return 0;
            }
            if (f.ink[q] <= 0) {
                return 0;
            }
            if (f.falls(ask(f, c, BLOTS), inThought)) {
                f.blots[c]++;
                f.ink[q]--;
                f.wear(q);
                note(f, BLOTTED, c, d, inThought);
                return 0;
            }
            int lines = Math.min(ask(f, c, WRITES), Math.min(f.ink[q], f.linesLeft(d)));
            f.written[d] += lines;
            f.ink[q] -= lines;
            f.wear(q);
            if (lines > 0) {
                note(f, WROTE, c, lines, inThought);
            }
            if (f.linesLeft(d) <= 0) {
                f.finish(d, c);
                note(f, SIGNED_DEED, c, d, inThought);
            }
            return lines;
        }

        private void note(Firm f, int kind, int c, int amount, boolean inThought) {
            if (!inThought) {
                book.add(f.hour, kind, c, amount);
            }
        }

        /** Deeds come only behind lesser ones, so one pass in their order is enough. */
        int soonest(int r, int[] ends, int what) {
            int latest = 0;
            int last = NONE;
            for (int d = 0; d < firm.deeds && d < ends.length; d++) {
                ends[d] = 0;
                if (firm.isDone(d) || r <= 0) {
                    continue;
                }
                int before = deedsBefore(d);
                int begin = 0;
                for (int e = 0; e < d; e++) {
                    if ((before >> e & 1) == 1) {
                        begin = Math.max(begin, ends[e]);
                    }
                }
                ends[d] = begin + (firm.linesLeft(d) + r - 1) / r;
                if (ends[d] > latest) {
                    latest = ends[d];
                    last = d;
                }
            }
            return what == 0 ? latest : last;
        }
    }

    /** What can be undone: a ring, the oldest of which gives way. */
    private static final class Past {
        final Firm[] firms;
        final int[] notes;
        int oldest;
        int size;

        Past() {
            firms = new Firm[MOST_KEPT];
            for (int i = 0; i < MOST_KEPT; i++) {
                firms[i] = new Firm();
            }
            notes = new int[MOST_KEPT];
            oldest = 0;
            size = 0;
        }

        void keep(Firm f, int noted) {
            int i = (oldest + size) % MOST_KEPT;
            if (i < 0 || firms[i] == null) {
                return;
            }
            firms[i].copyFrom(f);
            notes[i] = noted;
            if (size < MOST_KEPT) {
                size++;
            } else {
                oldest = (oldest + 1) % MOST_KEPT;
            }
        }

        boolean goBack(Firm f, Book book) {
            if (size <= 0) {
                return false;
            }
            int i = (oldest + size - 1) % MOST_KEPT;
            if (i < 0 || firms[i] == null) {
                return false;
            }
            f.copyFrom(firms[i]);
            // Lines are only put behind others, so THE BOOK as it was is the beginning of it.
            book.size = notes[i];
            size--;
            return true;
        }

        void forget() {
            size = 0;
        }
    }

    /** THE TAPE, and what a text on it says. */
    private static final class Reader {
        final int[] tape;
        int length;
        final int[] kinds;
        final int[] starts;
        int tokens;
        int at;
        int number;
        int fault;
        int faultPlace;
        final Law law;
        final Text lines;

        Reader() {
            tape = new int[MOST_TAPE];
            length = 0;
            kinds = new int[MOST_TAPE];
            starts = new int[MOST_TAPE];
            tokens = 0;
            at = 0;
            number = 0;
            fault = 0;
            faultPlace = NONE;
            law = new Law();
            lines = new Text();
        }

        void append(int four) {
            for (int shift = 24; shift >= 0; shift -= 8) {
                if (length >= 0 && length < MOST_TAPE) {
                    tape[length] = four >>> shift & 255;
                    length++;
                }
            }
        }

        /** Whether THE TAPE is a good TEXT k; its lines are then in law or in lines. */
        boolean understand(int k, Firm f) {
            fault = 0;
            faultPlace = NONE;
            if (!within(k, 0, 3)) {
                return false;
            }
            cutTokens();
            at = 0;
            law.clear();
            lines.size = 0;
            for (int line = 0; line <= MOST_LINES; line++) {
                if (token() == END) {
                    return true;
                }
                if (!beginsLine(k)) {
                    return refuse(NO_STAND);
                }
                if (line == MOST_LINES) {
                    return refuse(TOO_MANY);
                }
                if (!(k == 0 ? lawLine() : k == 1 ? orderLine(f) : k == 2 ? birdLine() : afterLine(f))) {
                    return false;
                }
            }
            return false;
        }

        private boolean beginsLine(int k) {
            int kind = token();
            switch (k) {
                case 0: return kind == WRITES || kind == BLOTS || kind == LIFTS;
                case 1: return kind == AT;
                case 2: return kind == BIRD;
                default: return kind == DEED;
            }
        }

        private void cutTokens() {
            tokens = 0;
            for (int i = 0; i < length && i < MOST_TAPE && tokens < MOST_TAPE; i++) {
                if (tape[i] != ' ' && tape[i] != '\n' && !goesOn(i)) {
                    starts[tokens] = i;
                    kinds[tokens] = kindAt(i);
                    tokens++;
                }
            }
        }

        /** Whether the byte belongs to the word or the number that the one before it is in. */
        private boolean goesOn(int i) {
            return i > 0 && (isLetter(tape[i]) && isLetter(tape[i - 1]) || isDigit(tape[i]) && isDigit(tape[i - 1]));
        }

        private int kindAt(int i) {
            if (isLetter(tape[i])) {
                return wordAt(i);
            }
            return isDigit(tape[i]) ? numberAt(i) : FIRST_SIGN + tape[i];
        }

        private int numberAt(int from) {
            int value = 0;
            for (int i = from; i < length && i < MOST_TAPE && isDigit(tape[i]); i++) {
                if (i - from >= 4) {
                    return BAD;
                }
                value = value * 10 + tape[i] - '0';
            }
            return value;
        }

        private int wordAt(int from) {
            int size = 1;
            while (size < MOST_TAPE && from + size < length && isLetter(tape[from + size])) {
                size++;
            }
            int word = 0;
            int begin = 0;
            for (int i = 0; i <= WORDS.length(); i++) {
                if (i == WORDS.length() || WORDS.charAt(i) == ' ') {
                    if (i - begin == size && isSame(from, begin, size)) {
                        return FIRST_WORD + word;
                    }
                    word++;
                    begin = i + 1;
                }
            }
            return BAD;
        }

        private boolean isSame(int from, int begin, int size) {
            for (int i = 0; i < size; i++) {
                if (from + i >= length || begin + i >= WORDS.length() || tape[from + i] != WORDS.charAt(begin + i)) {
                    return false;
                }
            }
            return true;
        }

        private static boolean isLetter(int c) {
            return c >= 'a' && c <= 'z' || c >= 'A' && c <= 'Z';
        }

        private static boolean isDigit(int c) {
            return c >= '0' && c <= '9';
        }

        private int token() {
            return at >= 0 && at < tokens && at < MOST_TAPE ? kinds[at] : END;
        }

        private boolean refuse(int what) {
            fault = what;
            faultPlace = at >= 0 && at < tokens && at < MOST_TAPE ? starts[at] : length;
            return false;
        }

        private boolean expect(int kind) {
            if (token() != kind) {
                return refuse(NO_STAND);
            }
            at++;
            return true;
        }

        private boolean expectNumber(int below) {
            int kind = token();
            if (kind < 0 || kind >= FIRST_WORD) {
                return refuse(NO_STAND);
            }
            if (kind >= below) {
                return refuse(BEYOND);
            }
            number = kind;
            at++;
            return true;
        }

        private boolean orderLine(Firm f) {
            if (!expect(AT) || !expectNumber(1000)) {
                return false;
            }
            int hour = number;
            if (!expect(CLERK) || !expectNumber(f.clerks)) {
                return false;
            }
            int clerk = number;
            int kind = token();
            if (kind < TAKE || kind > CUT) {
                return refuse(NO_STAND);
            }
            at++;
            int v = NONE;
            if (kind == TAKE || kind == WRITE) {
                if (!expectNumber(kind == TAKE ? f.quills : f.deeds)) {
                    return false;
                }
                v = number;
            }
            lines.add(hour, clerk, actOf(kind), v);
            return expect(CLOSE_LINE);
        }

        private static int actOf(int kind) {
            switch (kind) {
                case TAKE: return TAKE_QUILL;
                case DROP: return DROP_QUILL;
                case DIP: return DIP_QUILL;
                case CUT: return CUT_QUILL;
                case WRITE: return GO_TO_DEED;
                case REST: return GO_TO_DEED;
                default: return NONE;
            }
        }

        private boolean birdLine() {
            if (!expect(BIRD) || !expectNumber(MOST_BIRD + 1)) {
                return false;
            }
            int bird = number;
            if (!expect(WILD) || !expectNumber(10)) {
                return false;
            }
            int wild = number;
            if (!expect(FINE) || !expectNumber(10)) {
                return false;
            }
            lines.add(bird, wild, number, 0);
            return expect(CLOSE_LINE);
        }

        private boolean afterLine(Firm f) {
            if (!expect(DEED) || !expectNumber(f.deeds)) {
                return false;
            }
            int deed = number;
            if (!expect(AFTER) || !expectNumber(deed)) {
                return false;
            }
            lines.add(deed, number, 0, 0);
            return expect(CLOSE_LINE);
        }

        private boolean lawLine() {
            int word = token();
            int begin = law.size;
            at++;
            if (!sumUp()) {
                return false;
            }
            int middle = law.size;
            if (token() == WHEN) {
                at++;
                if (!condition(0)) {
                    return false;
                }
            }
            law.lines.add(word, begin, middle, law.size);
            return expect(CLOSE_LINE);
        }

        /** E and T at once: a + or - waits until the T behind it is there. */
        private boolean sumUp() {
            if (!unit()) {
                return false;
            }
            int waits = NONE;
            for (int rest = tokens - at; rest > 0; rest--) {
                int sign = token();
                if (sign != PLUS && sign != MINUS && sign != TIMES && sign != PARTS) {
                    break;
                }
                at++;
                if (sign == PLUS || sign == MINUS) {
                    if (waits != NONE) {
                        law.put(waits);
                    }
                    waits = sign;
                }
                if (!(sign == PARTS ? part() : unit())) {
                    return false;
                }
                if (sign == TIMES || sign == PARTS) {
                    law.put(sign);
                }
            }
            if (waits != NONE) {
                law.put(waits);
            }
            return true;
        }

        private boolean unit() {
            int kind = token();
            if (kind < 0 || kind > HOUR) {
                return refuse(NO_STAND);
            }
            law.put(kind);
            at++;
            return true;
        }

        private boolean part() {
            int kind = token();
            if (kind < 0 || kind >= FIRST_WORD) {
                return refuse(NO_STAND);
            }
            if (kind == 0) {
                return refuse(BEYOND);
            }
            law.put(kind);
            at++;
            return true;
        }

        /** B and A at once: an or waits until the A behind it is there. */
        private boolean condition(int open) {
            if (!single(open)) {
                return false;
            }
            boolean waits = false;
            for (int rest = tokens - at; rest > 0; rest--) {
                int joiner = token();
                if (joiner != AND && joiner != OR) {
                    break;
                }
                at++;
                if (joiner == OR) {
                    if (waits) {
                        law.put(OR);
                    }
                    waits = true;
                }
                if (!single(open)) {
                    return false;
                }
                if (joiner == AND) {
                    law.put(AND);
                }
            }
            if (waits) {
                law.put(OR);
            }
            return true;
        }

        private boolean single(int open) {
            int kind = token();
            if (kind == NOT || kind == OPENS) {
                if (open >= MOST_OPEN) {
                    return refuse(TOO_MANY);
                }
                at++;
                if (kind == OPENS) {
                    return condition(open + 1) && expect(CLOSES);
                }
                if (!single(open + 1)) {
                    return false;
                }
                law.put(NOT);
                return true;
            }
            if (!sumUp()) {
                return false;
            }
            int sign = token();
            if (sign != LESS && sign != SAME && sign != MORE) {
                return refuse(NO_STAND);
            }
            at++;
            if (!sumUp()) {
                return false;
            }
            law.put(sign);
            return true;
        }
    }

    /** What is asked in thought of numbers and told rows; its rows hold nothing between calls. */
    private static final class Thought {
        final int[] first;
        final int[] second;
        final int[] third;
        final int[] sums;
        final int[] ring;
        final int[] pieces;

        Thought() {
            first = new int[LONGEST_ROW + 1];
            second = new int[LONGEST_ROW + 1];
            third = new int[LONGEST_ROW + 1];
            sums = new int[MOST_SUM + 1];
            ring = new int[MOST_RING];
            pieces = new int[81];
        }

        /** How many rows begin with k comes, turned over, from those one shorter behind it. */
        int countFlock(int n, int k) {
            if (n <= 0 || n > MOST_FLOCK) {
                return n == 0 ? 1 : 0;
            }
            first[0] = 1;
            for (int size = 2; size <= n; size++) {
                for (int i = 0; i < size; i++) {
                    second[i] = 0;
                    for (int j = 0; j <= size - 2 - i; j++) {
                        second[i] += first[j];
                    }
                }
                System.arraycopy(second, 0, first, 0, size);
            }
            if (k >= 0 && k < n) {
                return first[k];
            }
            int all = 0;
            for (int i = 0; i < n; i++) {
                all += first[i];
            }
            return all;
        }

        int setPage(Row words, int w, int what) {
            int n = words.size;
            if (n <= 0 || n > LONGEST_ROW) {
                return 0;
            }
            int[] costs = first;
            int[] counts = second;
            costs[n] = 0;
            counts[n] = 0;
            for (int i = n - 1; i >= 0; i--) {
                costs[i] = HUGE;
                counts[i] = 0;
                int used = -1;
                for (int j = i; j < n; j++) {
                    used += 1 + words.values[j];
                    if (used > w) {
                        break;
                    }
                    int cost = costs[j + 1] + (j == n - 1 ? 0 : (w - used) * (w - used));
                    int count = 1 + counts[j + 1];
                    if (cost < costs[i] || cost == costs[i] && count < counts[i]) {
                        costs[i] = cost;
                        counts[i] = count;
                    }
                }
            }
            return what == 0 ? costs[0] : counts[0];
        }

        int payStamps(Row stamps, int what) {
            int unpaid = 0;
            int greatest = 0;
            sums[0] = 1;
            for (int s = 1; s <= MOST_SUM; s++) {
                sums[s] = 0;
                for (int i = 0; i < stamps.size; i++) {
                    int v = stamps.values[i];
                    if (v > 0 && v <= s && sums[s - v] == 1) {
                        sums[s] = 1;
                    }
                }
                if (sums[s] == 0) {
                    unpaid++;
                    greatest = s;
                }
            }
            if (what == 1) {
                return unpaid;
            }
            int common = 0;
            for (int i = 0; i < stamps.size; i++) {
                common = commonPart(common, stamps.values[i]);
            }
            // With no common part, all from 29 * 29 on can be paid: 1000 sums tell the greatest.
            return common == 1 ? greatest : NONE;
        }

        static int commonPart(int a, int b) {
            int x = Math.abs(a);
            int y = Math.abs(b);
            for (int i = 0; i < 64 && y != 0; i++) {
                int rest = x % y;
                x = y;
                y = rest;
            }
            return x;
        }

        static int scratchDown(int n, int what) {
            int v = n;
            int greatest = n;
            int steps = 0;
            while (v > 1 && steps < HUGE) {
                v = v % 2 == 0 ? v / 2 : 3 * v + 1;
                greatest = Math.max(greatest, v);
                steps++;
            }
            return what == 0 ? steps : greatest;
        }

        static int weighByThrees(int n, int what) {
            int v = n;
            int digits = 0;
            int weights = 0;
            for (int i = 0; i < 32 && v != 0; i++) {
                int digit = Math.floorMod(v + 1, 3) - 1;
                if (what == 10 + i) {
                    return digit;
                }
                v = (v - digit) / 3;
                digits++;
                weights += digit == 0 ? 0 : 1;
            }
            if (what == 0) {
                return digits;
            }
            return what == 1 ? weights : NONE - 1;
        }

        static boolean turnsLeft(int n) {
            int r = n;
            for (int i = 0; i < 32 && r != 0 && r % 2 == 0; i++) {
                r /= 2;
            }
            return r % 4 == 1;
        }

        static int walkCurve(int n, int what) {
            int x = 0;
            int y = 0;
            int dx = 1;
            int dy = 0;
            for (int step = 1; step <= n; step++) {
                x += dx;
                y += dy;
                int wasX = dx;
                boolean left = turnsLeft(step);
                dx = left ? -dy : dy;
                dy = left ? wasX : -wasX;
            }
            return what == 0 ? x : y;
        }

        static int countDots(int[] x, int[] y, int what) {
            if (x.length < 3 || y.length < 3) {
                return 0;
            }
            int onFirst = commonPart(x[1] - x[0], y[1] - y[0]);
            int twice = Math.abs((x[1] - x[0]) * (y[2] - y[0]) - (x[2] - x[0]) * (y[1] - y[0]));
            if (what == 0) {
                return onFirst + 1;
            }
            if (what == 2 || twice == 0) {
                return twice;
            }
            int onEdge = onFirst + commonPart(x[2] - x[1], y[2] - y[1]) + commonPart(x[0] - x[2], y[0] - y[2]);
            return (twice - onEdge + 2) / 2;
        }

        /** Piece i to j is from the i-th place to the j-th, with both ends of the plank as places. */
        int cutPlank(Row places, int l, int what) {
            int last = markPlaces(places, l);
            int firstCut = NONE;
            for (int span = 1; span <= last; span++) {
                for (int i = 0; i + span <= last; i++) {
                    int j = i + span;
                    int least = span == 1 ? 0 : HUGE;
                    for (int m = i + 1; m < j; m++) {
                        int cost = pieces[i * 9 + m] + pieces[m * 9 + j] + first[j] - first[i];
                        if (cost < least) {
                            least = cost;
                            firstCut = first[m];
                        }
                    }
                    pieces[i * 9 + j] = least;
                }
            }
            if (last < 2) {
                return what == 0 ? 0 : NONE;
            }
            // The last piece that was weighed is the whole plank.
            return what == 0 ? pieces[last] : firstCut;
        }

        /** The places in order into the first row, both ends too: the number of the last. */
        private int markPlaces(Row places, int l) {
            int last = 0;
            first[0] = 0;
            for (int p = 1; p < l && last < 7; p++) {
                if (places.has(p)) {
                    last++;
                    first[last] = p;
                }
            }
            last++;
            first[last] = l;
            return last;
        }

        /** Below 0, 0, above 0: how the row from a place on stands to that from another place on. */
        private static int compareFrom(Row row, int a, int b, int size) {
            for (int i = 0; i < size; i++) {
                int unlike = row.round(a + i) - row.round(b + i);
                if (unlike != 0) {
                    return unlike;
                }
            }
            return 0;
        }

        static int leastPlace(Row row) {
            int least = 0;
            for (int i = 1; i < row.size; i++) {
                if (compareFrom(row, i, least, row.size) < 0) {
                    least = i;
                }
            }
            return least;
        }

        static int sameAgain(Row row) {
            for (int i = 1; i < row.size; i++) {
                if (compareFrom(row, i, 0, row.size) == 0) {
                    return i;
                }
            }
            return row.size;
        }

        static int unlikeRows(Row row, int k) {
            if (k == 0) {
                return 1;
            }
            int count = 0;
            for (int i = 0; i < row.size; i++) {
                boolean known = false;
                for (int j = 0; j < i && !known; j++) {
                    known = compareFrom(row, i, j, k) == 0;
                }
                count += known ? 0 : 1;
            }
            return count;
        }

        static int sail(Row legs, int what) {
            int at = 0;
            int days = 0;
            int noughts = 0;
            for (int i = 0; i < legs.size; i++) {
                int step = legs.values[i] > 0 ? 1 : -1;
                for (int n = Math.abs(legs.values[i]); n > 0; n--) {
                    at += step;
                    if (at >= HALF_ROUND) {
                        at = -HALF_ROUND;
                        days++;
                    } else if (at < -HALF_ROUND) {
                        at = HALF_ROUND - 1;
                        days--;
                    }
                    noughts += at == 0 ? 1 : 0;
                }
            }
            if (what == 0) {
                return at;
            }
            return what == 1 ? days : noughts;
        }

        static int mirror(int n, int b) {
            int seen = 0;
            for (int i = 0; i < b; i++) {
                seen = seen << 1 | n >> i & 1;
            }
            return seen;
        }

        /** The upper half of the bits, with the middle one, tells the lower half. */
        static int countMirrored(int n, int b) {
            int lower = b / 2;
            int count = 0;
            for (int half = 0; half < 1 << b - lower; half++) {
                int whole = half << lower | mirror(half << lower, b);
                count += whole <= n ? 1 : 0;
            }
            return count;
        }

        int countOut(Row weights, int n, int what) {
            if (n <= 1 || n > MOST_RING) {
                return what == 0 ? 0 : NONE;
            }
            for (int i = 0; i < n; i++) {
                ring[i] = 1;
            }
            int stands = 0;
            int firstGone = NONE;
            for (int left = n; left > 1; left--) {
                int weight = weights.size > 0 ? weights.round(stands) : 1;
                int goes = stands;
                for (int i = 0; i < weight; i++) {
                    goes = nextThere(goes, n);
                }
                ring[goes] = 0;
                if (firstGone == NONE) {
                    firstGone = goes;
                }
                stands = nextThere(goes, n);
            }
            return what == 0 ? stands : firstGone;
        }

        private int nextThere(int from, int n) {
            if (n <= 0) {
                return 0;
            }
            for (int i = 1; i <= n; i++) {
                int next = (from + i) % n;
                if (next >= 0 && next < MOST_RING && ring[next] == 1) {
                    return next;
                }
            }
            return 0;
        }

        private void share(Row heirs, int l, int[] shares) {
            int all = heirs.sum();
            if (all <= 0) {
                return;
            }
            int left = l;
            for (int i = 0; i < heirs.size; i++) {
                shares[i] = l * heirs.values[i] / all;
                third[i] = l * heirs.values[i] % all;
                left -= shares[i];
            }
            for (int given = 0; given < left; given++) {
                int best = 0;
                for (int i = 1; i < heirs.size; i++) {
                    if (third[i] > third[best]) {
                        best = i;
                    }
                }
                shares[best]++;
                third[best] = -1;
            }
        }

        int shareOf(Row heirs, int l, int i) {
            share(heirs, l, first);
            return i >= 0 && i < heirs.size ? first[i] : NONE;
        }

        int whoLoses(Row heirs, int l) {
            share(heirs, l, first);
            share(heirs, l + 1, second);
            for (int i = 0; i < heirs.size; i++) {
                if (second[i] < first[i]) {
                    return i;
                }
            }
            return NONE;
        }
    }

    /** GAME: what each set of drawn lines is worth, from the full set down as far as was asked. */
    private static final class Boxes {
        final int[] worths;
        int known;

        Boxes() {
            worths = new int[BOX_STATES];
            known = BOX_STATES - 1;
        }

        int worth(int drawn) {
            if (!within(drawn, 0, BOX_STATES - 1)) {
                return 0;
            }
            for (int set = known - 1; set >= drawn && set >= 0; set--) {
                int best = -9;
                for (int line = 0; line < BOX_LINES; line++) {
                    if ((set >> line & 1) == 0) {
                        best = Math.max(best, worthOfDrawing(set, line));
                    }
                }
                worths[set] = best;
                known = set;
            }
            return worths[drawn];
        }

        int bestLine(int drawn) {
            int best = worth(drawn);
            for (int line = 0; line < BOX_LINES; line++) {
                if ((drawn >> line & 1) == 0 && worthOfDrawing(drawn, line) == best) {
                    return line;
                }
            }
            return NONE;
        }

        /** A line more makes a greater number, so the set with it is known before. */
        private int worthOfDrawing(int set, int line) {
            int then = set | 1 << line;
            if (then < 0 || then >= BOX_STATES) {
                return 0;
            }
            int closed = countClosed(then) - countClosed(set);
            return closed > 0 ? closed + worths[then] : -worths[then];
        }

        private static int countClosed(int set) {
            int closed = 0;
            for (int i = 0; i < BOXES.length; i++) {
                closed += (set & BOXES[i]) == BOXES[i] ? 1 : 0;
            }
            return closed;
        }
    }
}
