import java.nio.charset.StandardCharsets;

/** Each promise of the document by calls whose answers were worked out by hand from its words. */
public final class PromiseTest {
    private static final int MIN = Integer.MIN_VALUE;
    private static final int MAX = Integer.MAX_VALUE;
    private static int wrong = 0;
    private static int right = 0;
    private static int promise = 0;

    private static void due(String call, int got, int want) {
        if (got == want) { right++; return; }
        wrong++;
        System.out.println("promise " + promise + ": " + call + " answered " + got + ", due is " + want);
    }

    private static void due(String call, boolean got, boolean want) {
        due(call, got ? 1 : 0, want ? 1 : 0);
    }

    private static int feed(Counted x, String s) {
        byte[] b = s.getBytes(StandardCharsets.ISO_8859_1);
        int had = x.feed(0, 0, 0, 0, 0) - 20;
        x.end(had);
        int has = had;
        for (int i = 0; i < b.length; i += 20) {
            int[] five = new int[5];
            for (int j = 0; j < 20; j++) five[j / 4] = five[j / 4] << 8 | (i + j < b.length ? b[i + j] & 255 : 0);
            has = x.feed(five[0], five[1], five[2], five[3], five[4]);
        }
        x.end(had + b.length);
        return has;
    }

    private static int tell(Counted x, int k, String s) {
        feed(x, s);
        return x.text(k);
    }

    private static void good(Counted x, int k, String s, int lines) {
        due("text " + k + " \"" + s + "\"", tell(x, k, s), lines);
        due("its fault", x.fault(0), 0);
        due("its place", x.fault(1), -1);
    }

    private static void bad(Counted x, int k, String s, int what, int place) {
        due("text " + k + " \"" + s + "\"", tell(x, k, s), -1);
        due("fault(0) of \"" + s + "\"", x.fault(0), what);
        due("fault(1) of \"" + s + "\"", x.fault(1), place);
    }

    /** Two quills, two clerks who hold them, two deeds; nothing flies and nothing is blotted. */
    private static Counted calm() {
        Counted x = new Counted();
        x.quill(3, 20);
        x.quill(4, 5);
        x.clerk(5);
        x.clerk(9);
        x.deed(8);
        x.deed(12);
        tell(x, 0, "blots 0;lifts 0;");
        x.act(0, 0, 0);
        x.act(0, 1, 1);
        x.act(2, 0, 0);
        x.act(2, 1, 1);
        return x;
    }

    public static void main(String[] args) {
        p1(); p2(); p3(); p4(); p5(); p6(); p7(); p8(); drawsOfAnHour(); ordersOfAnHour(); p9(); p10();
        p11(); lawFaults(); lawTells(); lawKnows(); otherTexts(); p12(); p13(); p14(); p15(); p16(); p17(); p18(); p19(); p20();
        p21(); p23(); p25(); p26(); p27(); p28(); p29(); p31(); p33(); p35(); p37(); p38(); p40(); p42(); p43(); p44(); p45();
        System.out.println(right + " passed, " + wrong + " failed");
        if (wrong != 0) System.exit(1);
    }

    private static void p1() {
        promise = 1;
        due("NONE", QuillDesk.NONE, -1);
        Counted x = new Counted();
        for (int i = 0; i < 13; i++) due("look(" + i + ")", x.look(i), 0);
        due("fault(0)", x.fault(0), 0);
        due("fault(1)", x.fault(1), -1);
        due("undo()", x.undo(), false);
        due("image(false)", x.image(false), false);
        due("feed", x.feed(0, 0, 0, 0, 0), 20);
        due("book(0, 0)", x.book(0, 0), -1);
        Counted y = new Counted();
        y.quill(0, 0);
        due("another desk is empty", x.look(0), 0);
    }

    private static void p2() {
        promise = 2;
        Counted x = new Counted();
        due("state(7)", x.state(7), 0);
        due("state(MIN)", x.state(MIN), 7);
        due("look(7)", x.look(7), MIN);
        due("state(MAX)", x.state(MAX), MIN);
        due("look(7)", x.look(7), MAX);
        x.hours(1);
        due("look(12)", x.look(12), 1);
        x.state(MAX);
        due("state forgets", x.look(12), 0);
    }

    private static void p3() {
        promise = 3;
        Counted x = new Counted();
        int[][] none = {{-1, 0}, {8, 0}, {0, -1}, {0, 100}, {MIN, 0}, {0, MAX}};
        for (int[] n : none) due("quill(" + n[0] + ", " + n[1] + ")", x.quill(n[0], n[1]), -1);
        x.hours(1);
        x.quill(8, 0);
        due("what is refused does not forget", x.look(12), 1);
        for (int i = 0; i < 14; i++) due("quill " + i, x.quill(i % 8, 99 - i), i);
        due("quill forgets", x.look(12), 0);
        due("the fifteenth", x.quill(0, 0), -1);
        due("look(0)", x.look(0), 14);
        due("of(13, 0)", x.of(13, 0), 5);
        due("of(13, 1)", x.of(13, 1), 86);
        due("of(13, 2)", x.of(13, 2), 0);
        due("of(13, 3)", x.of(13, 3), 0);
        due("of(13, 4)", x.of(13, 4), -1);
    }

    private static void p4() {
        promise = 4;
        Counted x = new Counted();
        for (int n : new int[] {-1, 10, MIN, MAX}) due("clerk(" + n + ")", x.clerk(n), -1);
        x.hours(1);
        for (int i = 0; i < 10; i++) due("clerk " + i, x.clerk(9 - i), i);
        due("clerk forgets", x.look(12), 0);
        due("the eleventh", x.clerk(0), -1);
        int[] first = {0, -1, -1, 0, 0, 1, 300, 0};
        for (int i = 0; i < 8; i++) due("who(9, " + i + ")", x.who(9, i), first[i]);
        due("look(1)", x.look(1), 10);
    }

    private static void p5() {
        promise = 5;
        Counted x = new Counted();
        for (int n : new int[] {-1, 0, 100, MIN, MAX}) due("deed(" + n + ")", x.deed(n), -1);
        x.hours(1);
        due("deed(1)", x.deed(1), 0);
        due("deed forgets", x.look(12), 0);
        due("deed(99)", x.deed(99), 1);
        for (int i = 2; i < 12; i++) due("deed " + i, x.deed(i), i);
        due("the thirteenth", x.deed(1), -1);
        int[] first = {99, 0, -1, 0, 1, 0};
        for (int i = 0; i < 6; i++) due("deedOf(1, " + i + ")", x.deedOf(1, i), first[i]);
        due("look(2)", x.look(2), 12);
    }

    private static void p6() {
        promise = 6;
        Counted x = calm();
        due("look(12)", x.look(12), 4);
        due("set(0, 0, 100)", x.set(0, 0, 100), false);
        due("set(0, 0, -1)", x.set(0, 0, -1), false);
        due("set(1, 1, 100)", x.set(1, 1, 100), false);
        due("set(2, 0, 10)", x.set(2, 0, 10), false);
        due("set(2, 0, -1)", x.set(2, 0, -1), false);
        due("set(0, 2, 1)", x.set(0, 2, 1), false);
        due("set(1, -1, 1)", x.set(1, -1, 1), false);
        due("set(2, 2, 1)", x.set(2, 2, 1), false);
        due("set(3, 0, 1)", x.set(3, 0, 1), false);
        due("set(-1, 0, 1)", x.set(-1, 0, 1), false);
        due("set(MAX, MAX, MAX)", x.set(MAX, MAX, MAX), false);
        due("look(12)", x.look(12), 4);
        due("set(0, 1, 0)", x.set(0, 1, 0), true);
        due("set(1, 1, 0)", x.set(1, 1, 0), true);
        due("set(0, 1, 99)", x.set(0, 1, 99), true);
        due("look(12)", x.look(12), 0);
        due("set(1, 1, 99)", x.set(1, 1, 99), true);
        due("set(2, 1, 0)", x.set(2, 1, 0), true);
        due("of(1, 1)", x.of(1, 1), 99);
        due("of(1, 2)", x.of(1, 2), 99);
        due("who(1, 0)", x.who(1, 0), 0);
        due("of(0, 1)", x.of(0, 1), 20);
        due("who(0, 0)", x.who(0, 0), 5);
    }

    private static void p7() {
        promise = 7;
        Counted x = new Counted();
        x.quill(0, 98);
        x.quill(1, 99);
        x.clerk(0);
        x.clerk(1);
        x.deed(5);
        x.deed(5);
        tell(x, 3, "deed 1 after 0;");
        for (int what = -1; what < 6; what++) if (what != 2) due("act(" + what + ", 2, 0)", x.act(what, 2, 0), false);
        due("act(0, -1, 0)", x.act(0, -1, 0), false);
        due("act(0, 0, 2)", x.act(0, 0, 2), false);
        due("act(0, 0, -1)", x.act(0, 0, -1), false);
        due("act(1, 0, 0)", x.act(1, 0, 0), false);
        due("act(3, 0, 0)", x.act(3, 0, 0), false);
        due("act(4, 0, 0)", x.act(4, 0, 0), false);
        due("act(2, 0, -1)", x.act(2, 0, -1), false);
        due("act(2, 0, -2)", x.act(2, 0, -2), false);
        due("act(2, 0, 2)", x.act(2, 0, 2), false);
        due("act(5, 0, 0)", x.act(5, 0, 0), false);
        due("act(MIN, MIN, MIN)", x.act(MIN, MIN, MIN), false);
        due("look(12)", x.look(12), 0);
        due("act(0, 0, 0)", x.act(0, 0, 0), true);
        due("who(0, 1)", x.who(0, 1), 0);
        due("one who holds takes none", x.act(0, 0, 1), false);
        due("one that is held is not taken", x.act(0, 1, 0), false);
        due("act(3, 0, MAX): v is not asked", x.act(3, 0, MAX), true);
        due("of(0, 1)", x.of(0, 1), 99);
        due("a full one is not dipped", x.act(3, 0, 0), false);
        x.set(1, 0, 1);
        due("act(4, 0, MIN)", x.act(4, 0, MIN), true);
        due("of(0, 2)", x.of(0, 2), 0);
        due("a sharp one is not cut", x.act(4, 0, 0), false);
        due("what comes before need not be done", x.act(2, 0, 1), true);
        due("not where one is", x.act(2, 0, 1), false);
        due("without a quill", x.act(2, 1, 1), true);
        due("deedOf(1, 5)", x.deedOf(1, 5), 3);
        due("from one to another", x.act(2, 1, 0), true);
        due("to none", x.act(2, 1, -1), true);
        due("who(1, 2)", x.who(1, 2), -1);
        due("act(1, 0, MAX)", x.act(1, 0, MAX), true);
        due("who(0, 1)", x.who(0, 1), -1);
        due("look(12)", x.look(12), 6);
        Counted y = calm();
        y.hours(1);
        y.hours(1);
        due("look(4)", y.look(4), 1);
        due("not to one that is done", y.act(2, 0, 0), false);
        tell(y, 0, "lifts 1000;");
        y.act(2, 0, 1);
        y.hours(1);
        due("of(0, 3)", y.of(0, 3), 1);
        due("a quill that is gone", y.act(0, 0, 0), false);
    }

    private static void p8() {
        promise = 8;
        Counted x = calm();
        for (int n : new int[] {0, -1, 61, MIN, MAX}) due("hours(" + n + ")", x.hours(n), -1);
        due("look(5)", x.look(5), 0);
        // Clerk 0 writes 6 of 8, clerk 1 all that his ink gives, 5 of 12.
        due("hours(1)", x.hours(1), 11);
        due("deedOf(0, 1)", x.deedOf(0, 1), 6);
        due("deedOf(1, 1)", x.deedOf(1, 1), 5);
        due("of(0, 1)", x.of(0, 1), 14);
        due("of(1, 1)", x.of(1, 1), 0);
        due("of(1, 2)", x.of(1, 2), 1);
        due("look(6)", x.look(6), 2);
        x.act(2, 1, 0);
        due("hours(1)", x.hours(1), 2);
        due("deedOf(0, 2)", x.deedOf(0, 2), 0);
        due("who(0, 4)", x.who(0, 4), 1);
        due("who(0, 2)", x.who(0, 2), -1);
        due("all who are at it are at none", x.who(1, 2), -1);
        due("without ink nothing is worn", x.of(1, 2), 1);
        due("look(5)", x.look(5), 2);
        due("look(7): no draw for what is 0", x.look(7), 0);
        due("hours(60)", x.hours(60), 0);
        Counted y = new Counted();
        for (int i = 0; i < 166; i++) y.hours(60);
        due("look(5)", y.look(5), 9960);
        due("hours(40)", y.hours(40), -1);
        due("hours(39)", y.hours(39), 0);
        due("hours(1)", y.hours(1), -1);
        due("look(5)", y.look(5), 9999);
        due("goes on in thought", y.goes(60, 3), 0);
        wearAndBookAreFull();
    }

    private static void wearAndBookAreFull() {
        Counted x = new Counted();
        x.quill(0, 99);
        x.quill(1, 9);
        x.clerk(0);
        x.clerk(0);
        x.deed(99);
        x.deed(99);
        tell(x, 0, "lifts 0;blots 0 when hand=0;blots 1000;writes 0 when bird=1;writes 1;");
        x.set(2, 0, 9);
        x.act(0, 0, 0);
        x.act(0, 1, 1);
        x.act(2, 0, 0);
        x.act(2, 1, 1);
        x.hours(60);
        due("60 blots", x.who(0, 3), 60);
        due("of(0, 1)", x.of(0, 1), 39);
        due("of(1, 1): no lines, no ink", x.of(1, 1), 9);
        due("of(1, 2): worn all the same", x.of(1, 2), 60);
        x.hours(60);
        due("99 at most", x.of(1, 2), 99);
        due("of(0, 1)", x.of(0, 1), 0);
        due("no blot without ink", x.who(0, 3), 99);
        due("of(0, 2)", x.of(0, 2), 99);
        x.act(3, 0, 0);
        x.hours(60);
        due("a full book", x.look(6), 150);
        due("book(149, 0)", x.book(149, 0), 170);
        due("book(150, 0)", x.book(150, 0), -1);
        due("who(0, 3)", x.who(0, 3), 159);
        for (int i = 0; i < 6; i++) x.undo();
        due("look(6)", x.look(6), 150);
    }

    /** The first draws of 1000 from 0 are 563, 577, 494. */
    private static void drawsOfAnHour() {
        Counted x = new Counted();
        x.quill(2, 50);
        x.clerk(0);
        x.deed(99);
        x.act(0, 0, 0);
        x.act(2, 0, 0);
        tell(x, 0, "lifts 563;blots 577;writes 2;");
        due("563 is not below 563, 577 not below 577", x.hours(1), 2);
        due("look(7)", x.look(7), 1196435762);
        x.state(0);
        tell(x, 0, "lifts 563;blots 578;writes 2;");
        due("577 is below 578", x.hours(1), 0);
        due("who(0, 3)", x.who(0, 3), 1);
        due("of(0, 1)", x.of(0, 1), 47);
        x.state(0);
        tell(x, 0, "lifts 564;");
        due("563 is below 564", x.hours(1), 0);
        due("look(3)", x.look(3), 1);
        due("of(0, 3)", x.of(0, 3), 1);
        due("of(0, 2): one that lifts is not worn", x.of(0, 2), 2);
        due("who(0, 1)", x.who(0, 1), -1);
        due("he stays at the deed", x.who(0, 2), 0);
        due("look(7)", x.look(7), 1013904223);
        due("only his hour's draws", x.hours(5), 0);
        due("look(7)", x.look(7), 1013904223);
        Counted y = calm();
        tell(y, 0, "lifts 0-1;blots 0;writes 1;");
        y.hours(1);
        due("below 0 nothing is drawn", y.look(7), 0);
        tell(y, 0, "lifts 1;blots 0;writes 1;");
        y.set(0, 0, 0);
        y.hours(1);
        due("lifts are drawn without ink too, blots not", y.look(7), 1196435762);
    }

    private static void ordersOfAnHour() {
        Counted x = new Counted();
        x.quill(0, 1);
        x.quill(1, 1);
        x.clerk(0);
        x.clerk(0);
        x.deed(9);
        x.deed(9);
        tell(x, 0, "lifts 0;blots 0;writes 3;");
        tell(x, 3, "deed 1 after 0;");
        good(x, 1, "at 0 clerk 0 take 1;at 0 clerk 0 take 0;at 0 clerk 1 take 1;at 0 clerk 0 write 0;at 0 clerk 1 write 1;"
            + "at 1 clerk 0 dip;at 2 clerk 1 take 0;at 2 clerk 1 dip;at 3 clerk 0 cut;at 3 clerk 1 drop;at 4 clerk 0 write 0;at 4 clerk 1 rest;", 12);
        due("hour 0: one line of ink", x.hours(1), 1);
        due("who(0, 1)", x.who(0, 1), 1);
        due("who(1, 1)", x.who(1, 1), -1);
        due("who(1, 2)", x.who(1, 2), 1);
        due("hour 1", x.hours(1), 3);
        due("hour 2: deed 1 waits for deed 0", x.hours(1), 3);
        due("of(0, 1)", x.of(0, 1), 99);
        due("of(0, 2): who waits does not wear it", x.of(0, 2), 0);
        due("hour 3: the rest of deed 0", x.hours(1), 2);
        due("cut before it wrote", x.of(1, 2), 1);
        due("who(1, 1)", x.who(1, 1), -1);
        x.hours(1);
        due("a deed that is done is not gone to", x.who(0, 2), -1);
        due("rest", x.who(1, 2), -1);
        Counted y = new Counted();
        y.quill(0, 10);
        y.quill(0, 10);
        y.clerk(0);
        y.clerk(0);
        y.deed(2);
        y.deed(2);
        tell(y, 0, "lifts 0;blots 0;");
        tell(y, 3, "deed 1 after 0;");
        tell(y, 1, "at 0 clerk 0 take 0;at 0 clerk 1 take 1;at 0 clerk 0 write 1;at 0 clerk 1 write 0;");
        due("the one behind it comes first", y.hours(1), 2);
        due("look(4)", y.look(4), 1);
        due("then he can", y.hours(1), 2);
        due("look(4)", y.look(4), 3);
    }

    private static void p9() {
        promise = 9;
        Counted x = new Counted();
        for (int i = 1; i <= 20; i++) due("feed " + i, x.feed(MIN, -1, 0, MAX, i), 20 * i);
        due("more than 400", x.feed(0, 0, 0, 0, 0), -1);
        due("end(400)", x.end(400), true);
        x.end(381);
        due("381 and 20", x.feed(0, 0, 0, 0, 0), -1);
        x.end(380);
        due("380 and 20", x.feed(0, 0, 0, 0, 0), 400);
        // The highest byte comes first: "bird 3 wild 2 fine 3;".
        Counted y = new Counted();
        y.feed(1651077732, 540221559, 1768711200, 840984169, 1852121139);
        y.feed(991961120, 0, 0, 0, 0);
        y.end(21);
        due("text(2)", y.text(2), 1);
        y.quill(3, 0);
        due("of(0, 5)", y.of(0, 5), 2);
        due("of(0, 6)", y.of(0, 6), 3);
        y.hours(1);
        y.feed(0, 0, 0, 0, 0);
        due("feed does not forget", y.look(12), 1);
    }

    private static void p10() {
        promise = 10;
        Counted x = new Counted();
        due("end(0)", x.end(0), true);
        due("end(1)", x.end(1), false);
        x.feed(0x3b202020, 0, 0, 0, 0);
        due("end(21)", x.end(21), false);
        due("end(-1)", x.end(-1), false);
        due("end(MIN)", x.end(MIN), false);
        due("end(MAX)", x.end(MAX), false);
        due("nothing is changed", x.feed(0, 0, 0, 0, 0), 40);
        due("end(20)", x.end(20), true);
        due("end(40)", x.end(40), false);
        due("end(0)", x.end(0), true);
        due("text(2)", x.text(2), 0);
        x.hours(1);
        x.end(0);
        due("end does not forget", x.look(12), 1);
    }

    private static void p11() {
        promise = 11;
        Counted x = calm();
        good(x, 0, "", 0);
        good(x, 0, " \n writes 1 ; \n", 1);
        due("look(8)", x.look(8), 1);
        feed(x, "writes 2;");
        due("text(4)", x.text(4), -1);
        due("fault(0)", x.fault(0), 0);
        due("fault(1)", x.fault(1), -1);
        due("the tape is empty", x.feed(0, 0, 0, 0, 0), 20);
        due("text(-1)", x.text(-1), -1);
        due("text(MIN)", x.text(MIN), -1);
        due("text(MAX)", x.text(MAX), -1);
        due("the text stays", x.who(0, 5), 1);
        bad(x, 0, "writes 2; writes", 1, 16);
        due("the text stays", x.look(8), 1);
        due("the text stays", x.who(0, 5), 1);
        due("the tape is empty", x.feed(0, 0, 0, 0, 0), 20);
        x.end(0);
        good(x, 0, "", 0);
        due("an empty text is told too", x.look(8), 0);
        StringBuilder b = new StringBuilder();
        for (int i = 0; i < 16; i++) b.append("writes ").append(i).append(" ;");
        good(x, 0, b.toString(), 16);
        bad(x, 0, b + " blots 1;", 3, b.length() + 1);
        bad(x, 0, b + " hand 1;", 1, b.length() + 1);
        due("look(8)", x.look(8), 16);
        String full = "writes 7;" + " ".repeat(391);
        good(x, 0, full, 1);
        due("who(0, 5)", x.who(0, 5), 7);
        good(x, 0, "writes" + "+1".repeat(0) + " 1" + "+1".repeat(195) + ";", 1);
        due("who(0, 5): 99 at most", x.who(0, 5), 99);
    }

    private static void lawFaults() {
        Counted x = calm();
        String[] good = {"writes1;", "writes 0001when hand=1;", "lifts 9999*9999*9999;", "blots deed-1/1;",
            "writes 1 when not(1=1 or 2<3)and not not hand>1;", "writes 1\nwhen((((((((1=1))))))));",
            "writes 1 when not not not not not not not not 1=1;", "writes 1 when (1=1) and (((((((1=1)))))));",
            "writes hand*ink/2+worn-wild*fine-left+signed*lifted+bird-deed*hour;"};
        for (String s : good) good(x, 0, s, 1);
        bad(x, 0, "writes", 1, 6);
        bad(x, 0, "writes  ", 1, 8);
        bad(x, 0, "writes 1", 1, 8);
        bad(x, 0, "writes 1; ;", 1, 10);
        bad(x, 0, "Writes 1;", 1, 0);
        bad(x, 0, "writeshand;", 1, 0);
        bad(x, 0, "writ 1;", 1, 0);
        for (char c : new char[] {'a', 'z', 'A', 'Z'}) bad(x, 0, "writes" + c + " 1;", 1, 0);
        for (char c : new char[] {'@', '[', '`', '{', '/', ':'}) bad(x, 0, "writes" + c + " 1;", 1, 6);
        for (char c : new char[] {'0', '9'}) bad(x, 0, "writes 123" + c + "4;", 1, 7);
        for (char c : new char[] {':', '.'}) bad(x, 0, "writes 123" + c + "4;", 1, 10);
        bad(x, 0, "writes 12345;", 1, 7);
        bad(x, 0, "writes -1;", 1, 7);
        bad(x, 0, "writes 1 2;", 1, 9);
        bad(x, 0, "writes 1.;", 1, 8);
        bad(x, 0, "writes (1);", 1, 7);
        bad(x, 0, "writes clerk;", 1, 7);
        bad(x, 0, "writes 1+;", 1, 9);
        bad(x, 0, "writes 1/hand;", 1, 9);
        bad(x, 0, "writes 1/0;", 2, 9);
        bad(x, 0, "writes 1/0000", 2, 9);
        bad(x, 0, "writes 1/00000;", 1, 9);
        bad(x, 0, "writes 1 when;", 1, 13);
        bad(x, 0, "writes 1 when 1;", 1, 15);
        bad(x, 0, "writes 1 when 1=1=1;", 1, 17);
        bad(x, 0, "writes 1 when (1=1;", 1, 18);
        bad(x, 0, "writes 1 when 1=1);", 1, 17);
        bad(x, 0, "writes 1 when 1=1 or;", 1, 20);
        bad(x, 0, "writes 1 when 1=1 not 1=1;", 1, 18);
        bad(x, 0, "writes 1\t;", 1, 8);
        bad(x, 0, "writes 1\r\n;", 1, 8);
        bad(x, 0, "writes \u00e9;", 1, 7);
        bad(x, 0, "writes 1 when (((((((((1=1;", 3, 22);
        bad(x, 0, "writes 1 when not(not(not(not(not 1=1))));", 3, 30);
        bad(x, 0, "writes 1 when ((((((((1=1)))))))) and ((((((((not 1=1))))))));", 3, 46);
        bad(x, 0, "writes 1 when ((((((((1))))))));", 1, 23);
        bad(x, 0, "writes 1/0 when (((((((((1=1;", 2, 9);
    }

    private static void lawTells() {
        Counted x = calm();
        tell(x, 2, "bird 3 wild 2 fine 7;");
        x.set(1, 0, 4);
        String[] says = {"hand", "ink", "worn", "wild", "fine", "left", "signed", "lifted", "bird", "deed", "hour",
            "1+2*3-4", "10-4-3", "100/7*7", "2*3/4", "7-9+3", "90/4/5", "5-2*2+1", "0-5", "100"};
        int[] first = {5, 20, 4, 2, 7, 8, 0, 0, 3, 0, 0, 3, 3, 98, 1, 1, 4, 2, 0, 99};
        for (int i = 0; i < says.length; i++) {
            good(x, 0, "writes " + says[i] + ";", 1);
            due("writes " + says[i], x.who(0, 5), first[i]);
        }
        good(x, 0, "writes 1 when hand<5;writes 2 when hand>5 or hand=9;writes 3 when not hand=4 and ink>19;writes 4;", 4);
        due("the first that is so", x.who(0, 5), 3);
        x.set(0, 0, 19);
        due("the last", x.who(0, 5), 4);
        x.set(2, 0, 4);
        due("the first", x.who(0, 5), 1);
        x.set(2, 0, 9);
        due("the second", x.who(0, 5), 2);
        good(x, 0, "blots 7 when 1=2 and 1=2 or 1=1;lifts 7 when 1=1 or 1=1 and 1=2;writes 7 when not 1=2 and 1=2;", 3);
        due("and before or", x.who(0, 6), 7);
        due("and before or", x.who(0, 7), 7);
        due("not before and; else as if none were told", x.who(0, 5), 8);
        good(x, 0, "blots 7 when 1=2 and (1=2 or 1=1);lifts 7 when (1=1 or 1=1) and 1=2;writes 7 when not(1=2 and 1=2);", 3);
        due("blots as if none were told", x.who(0, 6), 30);
        due("lifts as if none were told", x.who(0, 7), 40);
        due("writes", x.who(0, 5), 7);
        good(x, 0, "blots 9999;lifts 1001;writes 0-1;", 3);
        due("1000 at most", x.who(0, 6), 1000);
        due("1000 at most", x.who(0, 7), 1000);
        due("0 at least", x.who(0, 5), 0);
        // 9999 * 9999 * 30 = 2999400030 wraps to -1295567266; by 9999 towards 0 that is -129569;
        // 9999 * 12 + 9582 is 129570.
        good(x, 0, "lifts 9999*9999*30/9999+9999*12+9582;blots 0-7/2+10;", 2);
        due("ints wrap", x.who(0, 7), 1);
        due("a part before a sum", x.who(0, 6), 7);
    }

    private static void lawKnows() {
        Counted x = calm();
        x.hours(2);
        tell(x, 0, "lifts 1000 when hand=9;lifts 0;");
        x.act(2, 1, 1);
        x.hours(1);
        good(x, 0, "writes signed*50+lifted*30+hour*2;blots 5 when hand=5 and (1=2 or 1=1 or 1=2);blots 6;lifts 5 when not 1=1;lifts 6 when 1<2 and 2>1 and 1=1;", 5);
        due("signed, lifted, hour", x.who(0, 5), 86);
        due("lifted, hour", x.who(1, 5), 36);
        due("or and or", x.who(0, 6), 5);
        due("hand", x.who(1, 6), 6);
        due("and and and", x.who(0, 7), 6);
        good(x, 0, "writes 1 when 1=1 or 1=2 or 1=2;writes 2;lifts 1 when 1=1 and 1=2 and 1=1;lifts 2 when 1=2 or 1=2 or 1=2;lifts 3;", 5);
        due("or or", x.who(0, 5), 1);
        due("and and, none of three", x.who(0, 7), 3);
        good(x, 0, "writes 1 when 2<1 or 1>2 or 1<1 or 1>1 or 1=2;writes 2;", 2);
        due("not less, not more, not the same", x.who(0, 5), 2);
        tell(x, 0, "writes 1;lifts 0;blots 0;");
        x.set(0, 0, 1);
        x.act(2, 0, 1);
        int had = x.look(6);
        due("one line", x.hours(1), 1);
        due("is a line of THE BOOK", x.look(6), had + 1);
    }

    private static void otherTexts() {
        Counted x = calm();
        x.quill(0, 0);
        good(x, 1, "at 0 clerk 0 take 2;", 1);
        bad(x, 1, "at 0 clerk 0 write 2;", 2, 19);
        x.deed(1);
        x.deed(1);
        good(x, 1, "at 0 clerk 0 write 3;", 1);
        bad(x, 1, "at 0 clerk 0 take 3;", 2, 18);
        x = calm();
        good(x, 1, "at 0 clerk 0 take 1;at 999 clerk 1 write 1;at 5 clerk 1 dip;at 5 clerk 1 cut;at 5 clerk 1 drop;at 5 clerk 1 rest;", 6);
        due("look(9)", x.look(9), 6);
        bad(x, 1, "at 1000 clerk 0 rest;", 2, 3);
        bad(x, 1, "at 0 clerk 2 rest;", 2, 11);
        bad(x, 1, "at 0 clerk 0 take 2;", 2, 18);
        bad(x, 1, "at 0 clerk 0 write 2;", 2, 19);
        bad(x, 1, "at 0 clerk 0 take;", 1, 17);
        bad(x, 1, "at 0 clerk 0 drop 1;", 1, 18);
        bad(x, 1, "at 0 clerk 0 sing;", 1, 13);
        bad(x, 1, "at 0 clerk 0 after;", 1, 13);
        bad(x, 1, "at clerk 0 rest;", 1, 3);
        bad(x, 1, "at hand clerk 0 rest;", 1, 3);
        bad(x, 1, "clerk 0 rest;", 1, 0);
        bad(x, 1, "at 0 clerk 0 rest;".repeat(16) + "at 0 clerk 0 rest;", 3, 288);
        good(x, 1, "at 0 clerk 0 rest;".repeat(16), 16);
        due("look(9)", x.look(9), 16);
        good(x, 2, "bird 3 wild 9 fine 0;bird 4 wild 1 fine 9;bird 3 wild 0 fine 1;", 3);
        due("look(10)", x.look(10), 3);
        due("the last for one", x.of(0, 5), 0);
        due("the last for one", x.of(0, 6), 1);
        due("of(1, 5)", x.of(1, 5), 1);
        bad(x, 2, "bird 8 wild 0 fine 0;", 2, 5);
        bad(x, 2, "bird 7 wild 10 fine 0;", 2, 12);
        bad(x, 2, "bird 7 wild 9 fine 10;", 2, 19);
        bad(x, 2, "bird 7 fine 1 wild 1;", 1, 7);
        bad(x, 2, "bird 7 wild 1 fine 1", 1, 20);
        bad(x, 2, "deed 1 after 0;", 1, 0);
        bad(x, 2, "bird0wild0fine0;".repeat(17), 3, 256);
        good(x, 2, "bird0wild0fine0;".repeat(16), 16);
        due("else as at first", x.of(0, 6), 5);
        good(x, 3, "deed 1 after 0;deed 1 after 0;", 2);
        due("look(11)", x.look(11), 2);
        bad(x, 3, "deed 2 after 0;", 2, 5);
        bad(x, 3, "deed 1 after 1;", 2, 13);
        bad(x, 3, "deed 0 after 0;", 2, 13);
        bad(x, 3, "deed 0 after 9999;", 2, 13);
        bad(x, 3, "deed 1 before 0;", 1, 7);
        bad(x, 3, "deed 1 after 0;".repeat(17), 3, 240);
        good(x, 3, "deed 1 after 0;".repeat(16), 16);
        Counted none = new Counted();
        bad(none, 1, "at 0 clerk 0 rest;", 2, 11);
        bad(none, 3, "deed 0 after 0;", 2, 5);
    }

    private static void p12() {
        promise = 12;
        Counted x = new Counted();
        due("fault(2)", x.fault(2), -1);
        due("fault(-1)", x.fault(-1), -1);
        due("fault(MIN)", x.fault(MIN), -1);
        bad(x, 0, "writes 1/0;", 2, 9);
        due("it stays told", x.fault(0), 2);
        due("text(9)", x.text(9), -1);
        due("no such text has none", x.fault(0), 0);
        due("no such text has none", x.fault(1), -1);
        bad(x, 2, "x", 1, 0);
        x.image(true);
        bad(x, 0, "writes 1/0;", 2, 9);
        x.image(false);
        due("the image has no fault", x.fault(0), 2);
        good(x, 2, "", 0);
    }

    private static void p13() {
        promise = 13;
        Counted x = calm();
        int[] first = {3, 20, 0, 0, 0, 0, 5};
        for (int i = 0; i < 7; i++) due("of(0, " + i + ")", x.of(0, i), first[i]);
        due("of(1, 4)", x.of(1, 4), 1);
        x.act(1, 1, 0);
        due("of(1, 4)", x.of(1, 4), -1);
        for (int n : new int[] {-1, 7, MIN, MAX}) due("of(0, " + n + ")", x.of(0, n), -2);
        for (int n : new int[] {-1, 2, 14, MIN, MAX}) due("of(" + n + ", 0)", x.of(n, 0), -2);
    }

    private static void p14() {
        promise = 14;
        Counted x = calm();
        x.act(1, 1, 0);
        x.act(2, 1, -1);
        tell(x, 0, "");
        int[] first = {5, 0, 0, 0, 0, 6, 150, 0};
        int[] second = {9, -1, -1, 0, 0, 1, 30, 0};
        for (int i = 0; i < 8; i++) {
            due("who(0, " + i + ")", x.who(0, i), first[i]);
            due("who(1, " + i + ")", x.who(1, i), second[i]);
        }
        tell(x, 0, "writes ink+worn+bird+wild+fine;blots left+1;lifts deed+2;");
        due("without a quill", x.who(1, 5), 0);
        due("at no deed", x.who(1, 6), 1);
        due("at no deed", x.who(1, 7), 1);
        due("with a quill", x.who(0, 5), 28);
        due("at a deed", x.who(0, 6), 9);
        due("at a deed", x.who(0, 7), 2);
        for (int n : new int[] {-1, 8, MIN, MAX}) due("who(0, " + n + ")", x.who(0, n), -2);
        for (int n : new int[] {-1, 2, 10, MIN, MAX}) due("who(" + n + ", 0)", x.who(n, 0), -2);
    }

    private static void p15() {
        promise = 15;
        Counted x = calm();
        x.deed(3);
        tell(x, 3, "deed 2 after 0;deed 2 after 1;deed 1 after 0;deed 2 after 0;");
        due("deedOf(2, 3)", x.deedOf(2, 3), 3);
        due("deedOf(1, 3)", x.deedOf(1, 3), 1);
        due("deedOf(0, 3)", x.deedOf(0, 3), 0);
        due("deedOf(0, 4)", x.deedOf(0, 4), 1);
        due("deedOf(1, 4)", x.deedOf(1, 4), 0);
        due("deedOf(2, 4)", x.deedOf(2, 4), 0);
        due("deedOf(0, 5)", x.deedOf(0, 5), 1);
        due("deedOf(1, 5)", x.deedOf(1, 5), 2);
        x.hours(2);
        due("deedOf(0, 0)", x.deedOf(0, 0), 8);
        due("deedOf(0, 1)", x.deedOf(0, 1), 8);
        due("deedOf(0, 2)", x.deedOf(0, 2), 0);
        due("one that is done is not written", x.deedOf(0, 4), 0);
        due("deedOf(1, 4)", x.deedOf(1, 4), 1);
        due("deedOf(2, 4)", x.deedOf(2, 4), 0);
        for (int n : new int[] {-1, 6, MIN, MAX}) due("deedOf(0, " + n + ")", x.deedOf(0, n), -2);
        for (int n : new int[] {-1, 3, 12, MIN, MAX}) due("deedOf(" + n + ", 0)", x.deedOf(n, 0), -2);
    }

    private static void p16() {
        promise = 16;
        Counted x = calm();
        x.hours(2);
        tell(x, 0, "lifts 1000;");
        x.act(2, 0, 1);
        x.hours(1);
        int[][] lines = {{0, 0, 0, 6}, {0, 0, 1, 5}, {1, 0, 0, 2}, {1, 3, 0, 0}, {2, 2, 0, 0}, {2, 2, 1, 1}};
        due("look(6)", x.look(6), lines.length);
        for (int i = 0; i < lines.length; i++) for (int k = 0; k < 4; k++) due("book(" + i + ", " + k + ")", x.book(i, k), lines[i][k]);
        for (int n : new int[] {-1, 4, MIN, MAX}) due("book(0, " + n + ")", x.book(0, n), -1);
        for (int n : new int[] {-1, 6, 150, MIN, MAX}) due("book(" + n + ", 0)", x.book(n, 0), -1);
        Counted y = calm();
        tell(y, 0, "blots 1000 when deed=1;blots 0;lifts 0;");
        y.hours(1);
        due("a blot tells the deed", y.book(1, 1), 1);
        due("a blot tells the deed", y.book(1, 2), 1);
        due("a blot tells the deed", y.book(1, 3), 1);
    }

    private static void p17() {
        promise = 17;
        Counted x = calm();
        x.hours(1);
        int[][] due = {{13, 0, 0, 1}, {13, 0, 0, 1}};
        for (int k = 0; k < 4; k++) due("goes(" + 1 + ", " + k + ")", x.goes(1, k), due[0][k]);
        for (int k = 0; k < 4; k++) due("goes(60, " + k + ")", x.goes(60, k), due[1][k]);
        due("nothing of it stays", x.deedOf(0, 1), 6);
        due("nothing of it stays", x.look(5), 1);
        due("nothing of it stays", x.look(6), 2);
        due("nothing of it stays", x.look(12), 5);
        tell(x, 0, "lifts 499;blots 500;");
        due("499 does not fall, 500 does", x.goes(2, 1), 2);
        due("goes(2, 2)", x.goes(2, 2), 0);
        tell(x, 0, "lifts 500;");
        due("500 falls", x.goes(1, 2), 2);
        due("no draws", x.look(7), 0);
        tell(x, 0, "lifts 0;blots 499;");
        tell(x, 1, "at 3 clerk 1 dip;");
        due("orders come in thought too", x.goes(2, 0), 13);
        due("orders come in thought too", x.goes(3, 0), 19);
        due("goes(4, 3)", x.goes(4, 3), 2);
        for (int n : new int[] {0, -1, 61, MIN, MAX}) due("goes(" + n + ", 0)", x.goes(n, 0), -1);
        for (int n : new int[] {-1, 4, MIN, MAX}) due("goes(1, " + n + ")", x.goes(1, n), -1);
    }

    private static void p18() {
        promise = 18;
        Counted x = calm();
        due("done(0)", x.done(0), 2);
        due("done(1)", x.done(1), -1);
        x.hours(1);
        due("done(0)", x.done(0), 1);
        x.hours(1);
        due("done(0)", x.done(0), 0);
        for (int n : new int[] {-1, 2, MIN, MAX}) due("done(" + n + ")", x.done(n), -1);
        Counted y = new Counted();
        y.quill(0, 99);
        y.clerk(9);
        y.deed(60);
        y.deed(61);
        tell(y, 0, "lifts 0;blots 0;writes 1;");
        y.act(0, 0, 0);
        y.act(2, 0, 0);
        due("within 60", y.done(0), 60);
        y.act(2, 0, 1);
        due("not within 60", y.done(1), -1);
        tell(y, 0, "lifts 0;blots 1;writes 1;");
        due("no draws: 1 of 1000 does not fall", y.done(1), -1);
        y.deed(59);
        y.act(2, 0, 2);
        due("no draws", y.done(2), 59);
        due("look(5)", y.look(5), 0);
        due("look(6)", y.look(6), 0);
        due("look(7)", y.look(7), 0);
    }

    private static void p19() {
        promise = 19;
        Counted x = new Counted();
        due("soon(1, 0)", x.soon(1, 0), 0);
        due("soon(1, 1)", x.soon(1, 1), -1);
        int[] lengths = {10, 9, 4, 14};
        for (int l : lengths) x.deed(l);
        due("soon(99, 0)", x.soon(99, 0), 1);
        due("of several the least", x.soon(99, 1), 0);
        due("soon(5, 0)", x.soon(5, 0), 3);
        due("soon(5, 1)", x.soon(5, 1), 3);
        tell(x, 3, "deed 2 after 0;deed 2 after 1;deed 1 after 0;");
        due("2 + 2 + 1", x.soon(5, 0), 5);
        due("soon(5, 1)", x.soon(5, 1), 2);
        due("10 + 9 + 4", x.soon(1, 0), 23);
        for (int n : new int[] {0, -1, 100, MIN, MAX}) due("soon(" + n + ", 0)", x.soon(n, 0), -1);
        for (int n : new int[] {-1, 2, MIN, MAX}) due("soon(1, " + n + ")", x.soon(1, n), -1);
        Counted y = calm();
        y.hours(2);
        tell(y, 3, "deed 1 after 0;");
        due("what is done takes nothing", y.soon(1, 0), 7);
        due("soon(1, 1)", y.soon(1, 1), 1);
        y.act(3, 1, 0);
        y.hours(2);
        due("all done", y.soon(1, 0), 0);
        due("all done", y.soon(1, 1), -1);
    }

    private static void p20() {
        promise = 20;
        Counted x = new Counted();
        int[] all = {1, 1, 1, 2, 5, 16, 61, 272, 1385, 7936, 50521, 353792, 2702765};
        for (int n = 0; n <= 12; n++) {
            due("flock(" + n + ", -1)", x.flock(n, -1), all[n]);
            int sum = 0;
            for (int k = 0; k < n; k++) sum += x.flock(n, k);
            if (n > 0) due("all first ones of " + n, sum, all[n]);
        }
        int[] four = {2, 2, 1, 0};
        for (int k = 0; k < 4; k++) due("flock(4, " + k + ")", x.flock(4, k), four[k]);
        due("flock(1, 0)", x.flock(1, 0), 1);
        due("flock(0, 0)", x.flock(0, 0), -1);
        due("flock(4, 4)", x.flock(4, 4), -1);
        due("flock(4, -2)", x.flock(4, -2), -1);
        for (int n : new int[] {-1, 13, MIN, MAX}) due("flock(" + n + ", -1)", x.flock(n, -1), -1);
        due("flock(MAX, MAX)", x.flock(MAX, MAX), -1);
    }

    private static void p21() {
        promise = 21;
        Counted x = new Counted();
        for (int n : new int[] {0, -2, 21, MIN, MAX}) due("letters(" + n + ")", x.letters(n), -1);
        due("letters(-1)", x.letters(-1), 0);
        for (int i = 1; i <= 10; i++) due("letters " + i, x.letters(i == 1 ? 20 : 1), i);
        due("the eleventh", x.letters(1), -1);
        promise = 22;
        due("page(20, 0): 20, 9 of 1", x.page(20, 0), 0);
        due("page(20, 1)", x.page(20, 1), 2);
        due("page(38, 1): 20 1 1 1 1 1 1 1 1 1 is 38", x.page(38, 1), 1);
        due("page(37, 1)", x.page(37, 1), 2);
        due("letters(-1)", x.letters(-1), 0);
        due("none told", x.page(20, 0), 0);
        due("none told", x.page(20, 1), 0);
        int[] words = {12, 8, 6, 9};
        for (int w : words) x.letters(w);
        // 12 | 8 6 | 9 costs 64 + 25, 12 | 8 | 6 9 costs 64 + 144.
        due("page(20, 0)", x.page(20, 0), 89);
        due("page(20, 1)", x.page(20, 1), 3);
        x.letters(-1);
        for (int w : new int[] {20, 20, 20}) x.letters(w);
        due("page(60, 1)", x.page(60, 1), 2);
        due("page(60, 0): 20 20 | 20", x.page(60, 0), 361);
        for (int n : new int[] {19, -1, 61, MIN, MAX}) due("page(" + n + ", 0)", x.page(n, 0), -1);
        for (int n : new int[] {-1, 2, MIN, MAX}) due("page(20, " + n + ")", x.page(20, n), -1);
        Counted y = new Counted();
        y.hours(1);
        y.letters(3);
        due("letters does not forget", y.look(12), 1);
    }

    private static void p23() {
        promise = 23;
        Counted x = new Counted();
        for (int n : new int[] {0, -2, 31, MIN, MAX}) due("stamp(" + n + ")", x.stamp(n), -1);
        due("stamp(30)", x.stamp(30), 1);
        due("stamp(29), the same twice", x.stamp(29), 2);
        due("stamp(29)", x.stamp(29), 3);
        due("stamp(29)", x.stamp(29), 4);
        due("the fifth", x.stamp(1), -1);
        promise = 24;
        due("29 * 30 - 59", x.stamps(0), 811);
        due("28 * 29 / 2", x.stamps(1), 406);
        due("stamp(-1)", x.stamp(-1), 0);
        due("none told", x.stamps(0), -1);
        due("none told", x.stamps(1), 1000);
        x.stamp(4);
        x.stamp(6);
        due("no greatest", x.stamps(0), -1);
        due("500 odd ones and 2", x.stamps(1), 501);
        x.stamp(9);
        due("4 6 9: 11", x.stamps(0), 11);
        due("4 6 9: 1 2 3 5 7 11", x.stamps(1), 6);
        x.stamp(1);
        due("all can", x.stamps(0), 0);
        due("all can", x.stamps(1), 0);
        for (int n : new int[] {-1, 2, MIN, MAX}) due("stamps(" + n + ")", x.stamps(n), -1);
    }

    private static void p25() {
        promise = 25;
        Counted x = new Counted();
        due("scratch(1, 0)", x.scratch(1, 0), 0);
        due("scratch(1, 1)", x.scratch(1, 1), 1);
        due("scratch(2, 1): n, too", x.scratch(2, 1), 2);
        due("scratch(7, 0)", x.scratch(7, 0), 16);
        due("scratch(7, 1)", x.scratch(7, 1), 52);
        due("scratch(6171, 0)", x.scratch(6171, 0), 261);
        due("scratch(9663, 1)", x.scratch(9663, 1), 27114424);
        due("scratch(9999, 0)", x.scratch(9999, 0), 91);
        for (int n : new int[] {0, -1, 10000, MIN, MAX}) due("scratch(" + n + ", 0)", x.scratch(n, 0), -1);
        for (int n : new int[] {-1, 2, MIN, MAX}) due("scratch(1, " + n + ")", x.scratch(1, n), -1);
    }

    private static void p26() {
        promise = 26;
        Counted x = new Counted();
        for (int n = -9999; n <= 9999; n += 101) {
            x = new Counted();
            int sum = 0;
            int times = 1;
            int some = 0;
            int digits = x.threes(n, 0);
            for (int i = 0; i < digits; i++) {
                int d = x.threes(n, 10 + i);
                if (d < -1 || d > 1) due("a digit of " + n, d, 0);
                sum += d * times;
                times *= 3;
                some += d == 0 ? 0 : 1;
            }
            due("the digits of " + n, sum, n);
            due("threes(" + n + ", 1)", x.threes(n, 1), some);
            due("no digit behind the highest of " + n, x.threes(n, 10 + digits), -2);
            if (digits > 0 && x.threes(n, 9 + digits) == 0) due("the highest digit of " + n, 0, 1);
        }
        due("threes(0, 0)", x.threes(0, 0), 0);
        due("threes(0, 1)", x.threes(0, 1), 0);
        due("threes(0, 10)", x.threes(0, 10), -2);
        due("threes(9841, 0)", x.threes(9841, 0), 9);
        due("threes(9842, 0)", x.threes(9842, 0), 10);
        for (int n : new int[] {-10000, 10000, MIN, MAX}) due("threes(" + n + ", 0)", x.threes(n, 0), -2);
        for (int n : new int[] {-1, 2, 9, 42, MIN, MAX}) due("threes(5, " + n + ")", x.threes(5, n), -2);
    }

    private static void p27() {
        promise = 27;
        Counted x = new Counted();
        int[][] way = {{0, 0}, {1, 0}, {1, 1}, {0, 1}, {0, 2}, {-1, 2}, {-1, 1}, {-2, 1}, {-2, 2}};
        for (int n = 0; n < way.length; n++) for (int k = 0; k < 2; k++) due("curve(3, " + n + ", " + k + ")", x.curve(3, n, k), way[n][k]);
        int[] left = {1, 1, 0, 1, 1, 0, 0};
        for (int n = 1; n <= 7; n++) due("curve(3, " + n + ", 2)", x.curve(3, n, 2), left[n - 1]);
        // Each fold more turns the end by an eighth and stretches it by the root of 2.
        due("curve(12, 4096, 0)", x.curve(12, 4096, 0), -64);
        due("curve(12, 4096, 1)", x.curve(12, 4096, 1), 0);
        due("curve(0, 0, 2)", x.curve(0, 0, 2), -10000);
        due("curve(0, 1, 2)", x.curve(0, 1, 2), -10000);
        due("curve(0, 1, 1)", x.curve(0, 1, 1), 0);
        due("curve(3, 8, 2)", x.curve(3, 8, 2), -10000);
        due("curve(3, 0, 2)", x.curve(3, 0, 2), -10000);
        due("curve(3, 9, 0)", x.curve(3, 9, 0), -10000);
        due("curve(3, -1, 0)", x.curve(3, -1, 0), -10000);
        for (int n : new int[] {-1, 13, 32, MIN, MAX}) due("curve(" + n + ", 0, 0)", x.curve(n, 0, 0), -10000);
        for (int n : new int[] {-1, 3, MIN, MAX}) due("curve(3, 1, " + n + ")", x.curve(3, 1, n), -10000);
        due("curve(3, MAX, 0)", x.curve(3, MAX, 0), -10000);
    }

    private static void p28() {
        promise = 28;
        Counted x = new Counted();
        int[] beside = {8, 7, 6, 5, 4, 3, 2, 1};
        int[] back = {2, 1, 4, 3, 6, 5, 8, 7};
        int[] sheet = {0, 0, 1, 1, 1, 1, 0, 0};
        for (int p = 1; p <= 8; p++) {
            due("quire(2, " + p + ", 0)", x.quire(2, p, 0), beside[p - 1]);
            due("quire(2, " + p + ", 1)", x.quire(2, p, 1), back[p - 1]);
            due("quire(2, " + p + ", 2)", x.quire(2, p, 2), sheet[p - 1]);
        }
        due("quire(1, 1, 0)", x.quire(1, 1, 0), 4);
        due("quire(12, 48, 0)", x.quire(12, 48, 0), 1);
        due("quire(12, 24, 2)", x.quire(12, 24, 2), 11);
        due("quire(12, 25, 2)", x.quire(12, 25, 2), 11);
        for (int n : new int[] {0, -1, 13, MIN, MAX}) due("quire(" + n + ", 1, 0)", x.quire(n, 1, 0), -1);
        for (int n : new int[] {0, -1, 9, MIN, MAX}) due("quire(2, " + n + ", 0)", x.quire(2, n, 0), -1);
        for (int n : new int[] {-1, 3, MIN, MAX}) due("quire(2, 1, " + n + ")", x.quire(2, 1, n), -1);
    }

    private static void dots(Counted x, int[] p, int on, int inside, int twice) {
        promise = 29;
        for (int i = 0; i < 3; i++) due("dot(" + i + ")", x.dot(i, p[2 * i], p[2 * i + 1]), true);
        promise = 30;
        due("dots(0)", x.dots(0), on);
        due("dots(1)", x.dots(1), inside);
        due("dots(2)", x.dots(2), twice);
    }

    private static void p29() {
        Counted x = new Counted();
        dots(x, new int[] {0, 0, 99, 0, 0, 99}, 100, 4753, 9801);
        dots(x, new int[] {0, 0, 0, 99, 99, 0}, 100, 4753, 9801);
        dots(x, new int[] {2, 3, 8, 15, 5, 9}, 7, 0, 0);
        dots(x, new int[] {5, 5, 5, 5, 9, 9}, 1, 0, 0);
        dots(x, new int[] {0, 0, 1, 1, 2, 1}, 2, 0, 1);
        dots(x, new int[] {10, 4, 0, 0, 3, 9}, 3, 37, 78);
        dots(x, new int[] {3, 7, 15, 1, 9, 31}, 7, 154, 324);
        dots(x, new int[] {10, 4, 0, 0, 3, 9}, 3, 37, 78);
        promise = 29;
        due("dot(3, 0, 0)", x.dot(3, 0, 0), false);
        due("dot(-1, 0, 0)", x.dot(-1, 0, 0), false);
        due("dot(0, 100, 0)", x.dot(0, 100, 0), false);
        due("dot(0, -1, 0)", x.dot(0, -1, 0), false);
        due("dot(0, 0, 100)", x.dot(0, 0, 100), false);
        due("dot(0, 0, -1)", x.dot(0, 0, -1), false);
        due("dot(MIN, MAX, MIN)", x.dot(MIN, MAX, MIN), false);
        due("nothing is changed", x.dots(2), 78);
        promise = 30;
        for (int n : new int[] {-1, 3, MIN, MAX}) due("dots(" + n + ")", x.dots(n), -1);
    }

    private static void p31() {
        promise = 31;
        Counted x = new Counted();
        for (int n : new int[] {0, -2, 60, MIN, MAX}) due("cut(" + n + ")", x.cut(n), -1);
        int[] places = {59, 1, 10, 40, 30, 20, 50};
        for (int i = 0; i < 7; i++) {
            due("cut(" + places[i] + ")", x.cut(places[i]), i + 1);
            due("told already", x.cut(places[i]), -1);
        }
        due("the eighth", x.cut(2), -1);
        promise = 32;
        due("planks(1, 0): none below 1", x.planks(1, 0), 0);
        due("planks(1, 1)", x.planks(1, 1), -1);
        due("planks(2, 0)", x.planks(2, 0), 2);
        due("planks(2, 1)", x.planks(2, 1), 1);
        due("planks(10, 0): 10 is not below 10", x.planks(10, 0), 10);
        // 40: cut at 20, then 1 and 10 of 20, then 30.
        due("planks(40, 0)", x.planks(40, 0), 40 + 20 + 10 + 20);
        due("planks(40, 1)", x.planks(40, 1), 20);
        promise = 31;
        due("cut(-1)", x.cut(-1), 0);
        due("cut(30)", x.cut(30), 1);
        promise = 32;
        due("planks(60, 0)", x.planks(60, 0), 60);
        x.cut(20);
        x.cut(40);
        due("59 at 20, 39 at 40, 20 at 30", x.planks(59, 0), 59 + 39 + 20);
        due("at 20 or at 30", x.planks(59, 1), 20);
        x.cut(-1);
        x.cut(40);
        x.cut(20);
        due("planks(60, 0)", x.planks(60, 0), 100);
        due("of several the least place", x.planks(60, 1), 20);
        for (int n : new int[] {0, -1, 61, MIN, MAX}) due("planks(" + n + ", 0)", x.planks(n, 0), -1);
        for (int n : new int[] {-1, 2, MIN, MAX}) due("planks(60, " + n + ")", x.planks(60, n), -1);
    }

    private static void p33() {
        promise = 33;
        Counted x = new Counted();
        for (int n : new int[] {-2, 10, MIN, MAX}) due("sign(" + n + ")", x.sign(n), -1);
        int[] row = {2, 1, 3, 2, 1, 3, 2, 1, 3, 2, 1, 3};
        for (int i = 0; i < 12; i++) due("sign " + i, x.sign(row[i]), i + 1);
        due("the thirteenth", x.sign(0), -1);
        promise = 34;
        due("read(0)", x.read(0), 1);
        due("read(1)", x.read(1), 3);
        for (int k = 1; k <= 12; k++) due("read(" + (100 + k) + ")", x.read(100 + k), 3);
        due("read(100)", x.read(100), 1);
        promise = 33;
        due("sign(-1)", x.sign(-1), 0);
        promise = 34;
        due("read(100)", x.read(100), 1);
        due("read(101)", x.read(101), 0);
        due("read(112)", x.read(112), 0);
        due("read(1)", x.read(1), 0);
        x.sign(0);
        due("one alone", x.read(1), 1);
        due("one alone", x.read(112), 1);
        x.sign(9);
        x.sign(0);
        due("0 9 0", x.read(0), 2);
        due("0 9 0", x.read(1), 3);
        due("0 9 0: 0 and 9", x.read(101), 2);
        due("0 9 0: 09 90 00", x.read(102), 3);
        due("0 9 0", x.read(112), 3);
        x.sign(-1);
        for (int v : new int[] {1, 2, 1, 2}) x.sign(v);
        due("of several the first", x.read(0), 0);
        due("1 2 1 2", x.read(1), 2);
        x.sign(-1);
        x.sign(4);
        x.sign(4);
        due("4 4", x.read(0), 0);
        due("4 4", x.read(1), 1);
        due("4 4", x.read(105), 1);
        for (int n : new int[] {-1, 2, 99, 113, MIN, MAX}) due("read(" + n + ")", x.read(n), -1);
    }

    private static void p35() {
        promise = 35;
        Counted x = new Counted();
        for (int n : new int[] {-180, 180, MIN, MAX}) due("leg(" + n + ")", x.leg(n), -1);
        promise = 36;
        for (int k = 0; k < 3; k++) due("line(" + k + ")", x.line(k), 0);
        promise = 35;
        for (int i = 1; i <= 10; i++) due("leg " + i, x.leg(i == 10 ? 170 : 179), i);
        due("the eleventh", x.leg(1), -1);
        promise = 36;
        // 1781 degrees east: 5 times over 180, 4 times through 360.
        due("line(0)", x.line(0), 1781 - 1800);
        due("line(1)", x.line(1), 5);
        due("line(2)", x.line(2), 4);
        promise = 35;
        due("leg(0)", x.leg(0), 0);
        due("leg(179)", x.leg(179), 1);
        promise = 36;
        due("line(0)", x.line(0), 179);
        due("line(1)", x.line(1), 0);
        x.leg(1);
        due("180 is -180", x.line(0), -180);
        due("a day more", x.line(1), 1);
        x.leg(-1);
        due("line(0)", x.line(0), 179);
        due("a day less", x.line(1), 0);
        x.leg(-179);
        due("line(2)", x.line(2), 1);
        x.leg(-1);
        x.leg(1);
        due("come to 0 once more", x.line(2), 2);
        x.leg(0);
        x.leg(-179);
        x.leg(-1);
        due("line(0)", x.line(0), -180);
        due("no day yet", x.line(1), 0);
        x.leg(-1);
        due("a day less", x.line(1), -1);
        due("line(0)", x.line(0), 179);
        for (int n : new int[] {-1, 3, MIN, MAX}) due("line(" + n + ")", x.line(n), -10000);
    }

    private static void p37() {
        promise = 37;
        Counted x = new Counted();
        due("water(1, 1, 0)", x.water(1, 1, 0), 1);
        due("water(1, 1, 1)", x.water(1, 1, 1), 2);
        due("water(1, 16, 0)", x.water(1, 16, 0), 32768);
        due("water(65535, 16, 0)", x.water(65535, 16, 0), 65535);
        due("water(22, 4, 0): the lowest four", x.water(22, 4, 0), 6);
        due("water(13, 4, 0)", x.water(13, 4, 0), 11);
        due("water(65535, 16, 1)", x.water(65535, 16, 1), 256);
        due("water(65535, 15, 1)", x.water(65535, 15, 1), 256);
        due("water(65534, 16, 1)", x.water(65534, 16, 1), 255);
        due("water(0, 16, 1)", x.water(0, 16, 1), 1);
        due("water(9, 4, 1): 0 6 9", x.water(9, 4, 1), 3);
        due("water(8, 4, 1): 0 6", x.water(8, 4, 1), 2);
        due("water(65535, 4, 1): 0 6 9 15", x.water(65535, 4, 1), 4);
        for (int n : new int[] {-1, 65536, MIN, MAX}) due("water(" + n + ", 1, 0)", x.water(n, 1, 0), -1);
        for (int n : new int[] {0, -1, 17, 32, MIN, MAX}) due("water(1, " + n + ", 0)", x.water(1, n, 0), -1);
        for (int n : new int[] {-1, 2, MIN, MAX}) due("water(1, 1, " + n + ")", x.water(1, 1, n), -1);
    }

    private static void p38() {
        promise = 38;
        Counted x = new Counted();
        for (int n : new int[] {0, -2, 10, MIN, MAX}) due("weight(" + n + ")", x.weight(n), -1);
        promise = 39;
        due("none told: lift(2, 0)", x.lift(2, 0), 0);
        due("none told: lift(40, 0)", x.lift(40, 0), 16);
        due("lift(40, 1)", x.lift(40, 1), 1);
        due("lift(3, 0)", x.lift(3, 0), 2);
        promise = 38;
        due("weight(3)", x.weight(3), 1);
        due("weight(1)", x.weight(1), 2);
        promise = 39;
        // 0 weighs 3: 3 goes; 4 weighs 3: 0 1 2 goes; 4: 0 1 4 goes; 0: 1 0 1 goes.
        due("lift(5, 1)", x.lift(5, 1), 3);
        due("lift(5, 0)", x.lift(5, 0), 0);
        due("lift(1, 0)", x.lift(1, 0), 0);
        due("lift(1, 1)", x.lift(1, 1), -1);
        promise = 38;
        for (int i = 3; i <= 8; i++) due("weight " + i, x.weight(9), i);
        due("the ninth", x.weight(1), -1);
        due("weight(-1)", x.weight(-1), 0);
        due("weight(9)", x.weight(9), 1);
        promise = 39;
        due("9 from 0 in a ring of two: 1", x.lift(2, 0), 0);
        // 9 from 0 in a ring of three: 0 itself.
        due("lift(3, 1)", x.lift(3, 1), 0);
        due("9 from 1 in a ring of 1, 2: 2", x.lift(3, 0), 1);
        x.weight(-1);
        x.weight(2);
        due("2 from 0 in a ring of two: 0 itself", x.lift(2, 0), 1);
        due("lift(2, 1)", x.lift(2, 1), 0);
        for (int n : new int[] {0, -1, 41, MIN, MAX}) due("lift(" + n + ", 0)", x.lift(n, 0), -1);
        for (int n : new int[] {-1, 2, MIN, MAX}) due("lift(3, " + n + ")", x.lift(3, n), -1);
    }

    private static void p40() {
        promise = 40;
        Counted x = new Counted();
        for (int n : new int[] {0, -2, 51, MIN, MAX}) due("heir(" + n + ")", x.heir(n), -1);
        promise = 41;
        due("none told", x.seal(5, 0), -1);
        due("none told", x.seal(5, -1), -1);
        promise = 40;
        for (int i = 1; i <= 6; i++) due("heir " + i, x.heir(50), i);
        due("the seventh", x.heir(1), -1);
        promise = 41;
        for (int i = 0; i < 6; i++) due("seal(200, " + i + ")", x.seal(200, i), i < 2 ? 34 : 33);
        due("nobody loses", x.seal(200, -1), -1);
        due("seal(0, 5)", x.seal(0, 5), 0);
        due("seal(5, 6)", x.seal(5, 6), -1);
        due("seal(5, -2)", x.seal(5, -2), -1);
        promise = 40;
        due("heir(-1)", x.heir(-1), 0);
        // 6 6 2 by 14: of 10 4.28 4.28 1.43, of 11 4.71 4.71 1.57.
        due("heir(1)", x.heir(1), 1);
        due("seal(1, 0)", x.seal(1, 0), 1);
        x.heir(-1);
        due("heir(2)", x.heir(2), 1);
        due("heir(6)", x.heir(6), 2);
        due("heir(6)", x.heir(6), 3);
        promise = 41;
        due("seal(10, 0)", x.seal(10, 0), 2);
        due("seal(11, 0)", x.seal(11, 0), 1);
        due("seal(10, -1)", x.seal(10, -1), 0);
        due("seal(11, -1)", x.seal(11, -1), -1);
        for (int l = 0; l <= 200; l += 7) due("all of " + l, x.seal(l, 0) + x.seal(l, 1) + x.seal(l, 2), l);
        for (int n : new int[] {-1, 201, MIN, MAX}) due("seal(" + n + ", 0)", x.seal(n, 0), -1);
        for (int n : new int[] {3, -2, MIN, MAX}) due("seal(10, " + n + ")", x.seal(10, n), -1);
    }

    private static int bits(int... lines) {
        int set = 0;
        for (int l : lines) set |= 1 << l;
        return set;
    }

    private static void p42() {
        promise = 42;
        Counted x = new Counted();
        due("game(4095, 0)", x.game(4095, 0), 0);
        due("game(4095, 1)", x.game(4095, 1), -1);
        for (int l = 0; l < 12; l++) {
            int closes = bits(2, 3, 7, 10) >> l & 1;
            due("only line " + l, x.game(4095 & ~(1 << l), 0), closes == 1 ? 2 : 1);
            due("only line " + l, x.game(4095 & ~(1 << l), 1), l);
        }
        // Two lines of one corner box: whoever draws the first gives the box to the other.
        due("the corner 0, 6", x.game(4095 & ~bits(0, 6), 0), -1);
        due("the least line", x.game(4095 & ~bits(0, 6), 1), 0);
        // The box below on the right is open by 5 and 11, the one above on the left by 0: closing goes on.
        due("0 closes, then one must draw", x.game(4095 & ~bits(0, 5, 11), 0), 0);
        due("an empty board", x.game(0, 0), 2);
        due("an empty board", x.game(0, 1), 0);
        due("line 0 drawn", x.game(1, 0), -2);
        due("line 0 drawn", x.game(1, 1), 1);
        due("lines 0, 1, 6 drawn", x.game(67, 0), -2);
        due("lines 0, 1, 6 drawn", x.game(67, 1), 4);
        // A row of two boxes that miss 0, 2 | 2, 4: drawing 2 gives 0 and 4 to the other one.
        due("0, 2, 4", x.game(4095 & ~bits(0, 2, 4), 0), -2);
        due("0, 2, 4", x.game(4095 & ~bits(0, 2, 4), 1), 0);
        for (int n : new int[] {-1, 4096, MIN, MAX}) due("game(" + n + ", 0)", x.game(n, 0), -10);
        for (int n : new int[] {-1, 2, MIN, MAX}) due("game(0, " + n + ")", x.game(0, n), -10);
        Counted y = new Counted();
        due("asked from below first", y.game(0, 0), 2);
        due("then from above", y.game(4095 & ~bits(7), 0), 2);
    }

    private static void p43() {
        promise = 43;
        Counted x = calm();
        due("look(12)", x.look(12), 4);
        x.hours(3);
        due("six are kept", x.look(12), 6);
        int[] hours = {2, 1, 0, 0, 0, 0};
        int[] lines = {13, 11, 0, 0, 0, 0};
        for (int i = 0; i < 6; i++) {
            due("undo " + i, x.undo(), true);
            due("look(5)", x.look(5), hours[i]);
            due("lines", x.deedOf(0, 1) + x.deedOf(1, 1), lines[i]);
        }
        due("the seventh", x.undo(), false);
        due("goings went back", x.who(0, 2), -1);
        due("the second taking went back", x.who(1, 1), -1);
        due("the first taking did not", x.who(0, 1), 0);
        due("the book went back", x.look(6), 0);
        Counted y = calm();
        tell(y, 0, "lifts 1000;");
        y.hours(1);
        due("look(3)", y.look(3), 2);
        due("undo()", y.undo(), true);
        due("the state went back", y.look(7), 0);
        due("look(3)", y.look(3), 0);
        due("of(0, 3)", y.of(0, 3), 0);
        due("who(0, 1)", y.who(0, 1), 0);
        due("THE LAW did not", y.look(8), 1);
        due("look(12)", y.look(12), 4);
        tell(y, 2, "bird 1 wild 1 fine 1;");
        tell(y, 3, "deed 1 after 0;");
        tell(y, 1, "at 0;");
        tell(y, 7, "");
        for (int v : new int[] {-1, 1}) { y.letters(v); y.stamp(v); y.cut(v); y.sign(v); y.leg(v + 1); y.weight(v); y.heir(v); }
        y.dot(0, 1, 1);
        y.image(true);
        y.deed(0);
        y.clerk(-1);
        y.set(0, 0, 100);
        y.act(0, 0, 0);
        y.hours(0);
        due("none of these forgets", y.look(12), 4);
        tell(y, 1, "at 5 clerk 0 rest;");
        due("ORDERS forget", y.look(12), 0);
        due("undo()", y.undo(), false);
        y.act(1, 0, 0);
        y.act(0, 0, 0);
        y.set(1, 0, 5);
        due("set forgets", y.look(12), 0);
        y.act(4, 0, 0);
        due("a cut", y.of(0, 2), 0);
        y.undo();
        due("a cut undone", y.of(0, 2), 5);
        y.act(3, 0, 0);
        y.undo();
        due("a dip undone", y.of(0, 1), 20);
        y.act(1, 0, 0);
        y.undo();
        due("a drop undone", y.who(0, 1), 0);
    }

    private static void p44() {
        promise = 44;
        Counted x = calm();
        due("image(false)", x.image(false), false);
        due("what is refused does not forget", x.look(12), 4);
        x.letters(5); x.stamp(3); x.stamp(5); x.dot(1, 4, 0); x.cut(7); x.sign(3); x.leg(9); x.weight(2); x.heir(4);
        tell(x, 3, "deed 1 after 0;");
        tell(x, 2, "bird 3 wild 1 fine 1;");
        tell(x, 0, "blots 999 when hand=5 and hour>8;blots 0;lifts 1000 when hour=9 and hand=9;lifts 0;");
        x.deed(90);
        x.set(0, 1, 50);
        x.hours(8);
        x.act(2, 0, 2);
        x.act(2, 1, 2);
        x.hours(2);
        due("lifted, blotted, signed", 100 * x.look(3) + 10 * x.who(0, 3) + x.look(4), 113);
        x.state(77);
        x.feed(0x77777777, 0, 0, 0, 0);
        due("image(true)", x.image(true), true);
        String all = all(x);
        for (int times = 0; times < 2; times++) {
            x.hours(5);
            x.quill(1, 1); x.clerk(1); x.deed(1); x.set(2, 0, 0); x.state(5);
            x.text(9);
            for (int k = 0; k < 4; k++) tell(x, k, k == 0 ? "writes 9;" : k == 1 ? "at 9 clerk 0 rest;" : "");
            x.letters(-1); x.stamp(-1); x.dot(1, 9, 9); x.cut(-1); x.sign(-1); x.leg(0); x.weight(-1); x.heir(-1);
            x.letters(20); x.stamp(2); x.cut(9); x.sign(8); x.leg(-3); x.weight(7); x.heir(50);
            x.feed(0, 0, 0, 0, 0);
            x.hours(1);
            due("look(12)", x.look(12), 1);
            due("image(false)", x.image(false), true);
            due("all as it was", all(x).equals(all));
            due("nothing can be undone", x.look(12), 0);
            due("undo()", x.undo(), false);
            due("page(20, 1)", x.page(20, 1), 1);
            due("stamps(0)", x.stamps(0), 7);
            due("dots(0)", x.dots(0), 5);
            due("planks(60, 1)", x.planks(60, 1), 7);
            due("read(1)", x.read(1), 1);
            due("line(0)", x.line(0), 9);
            due("lift(3, 1)", x.lift(3, 1), 2);
            due("seal(3, 0)", x.seal(3, 0), 3);
            due("the tape is not of it", x.feed(0, 0, 0, 0, 0), 40);
            x.end(0);
        }
        bookGoesBack();
        Counted y = calm();
        due("taking it does not forget", y.image(true), true);
        due("look(12)", y.look(12), 4);
    }

    /** What was undone and written anew stands where the lines of THE IMAGE stood. */
    private static void bookGoesBack() {
        Counted x = calm();
        x.hours(1);
        x.image(true);
        String all = all(x);
        x.undo();
        x.undo();
        x.undo();
        tell(x, 0, "lifts 0;blots 1000;");
        x.hours(1);
        x.act(2, 1, 1);
        x.hours(4);
        due("other lines", all(x).equals(all), false);
        x.image(false);
        due("all as it was", all(x).equals(all));
        x.hours(2);
        x.image(false);
        due("once more", all(x).equals(all));
    }

    /** All that can be asked of a desk without thought. */
    private static String all(Counted x) {
        StringBuilder b = new StringBuilder();
        int quills = x.look(0), clerks = x.look(1), deeds = x.look(2), lines = x.look(6);
        for (int i = 0; i < quills; i++) for (int k = 0; k < 7; k++) b.append(x.of(i, k)).append(' ');
        for (int i = 0; i < clerks; i++) for (int k = 0; k < 8; k++) b.append(x.who(i, k)).append(' ');
        for (int i = 0; i < deeds; i++) for (int k = 0; k < 6; k++) b.append(x.deedOf(i, k)).append(' ');
        for (int i = 0; i < lines; i++) for (int k = 0; k < 4; k++) b.append(x.book(i, k)).append(' ');
        for (int i = 0; i < 12; i++) b.append(x.look(i)).append(' ');
        return b.toString();
    }

    private static void due(String call, boolean so) {
        due(call, so, true);
    }

    private static void p45() {
        promise = 45;
        Counted x = calm();
        tell(x, 1, "at 9 clerk 0 rest;at 9 clerk 0 rest;");
        tell(x, 2, "bird 0 wild 0 fine 0;".repeat(3));
        tell(x, 3, "deed 1 after 0;".repeat(4));
        x.quill(0, 0);
        x.state(-5);
        x.hours(2);
        x.act(1, 0, 0);
        // Deed 1 waits while deed 0 is not done: clerk 0 writes 6 and 2, then clerk 1 writes his 5.
        int[] first = {3, 2, 2, 0, 1, 2, 4, -5, 2, 2, 3, 4, 3};
        for (int i = 0; i < 13; i++) due("look(" + i + ")", x.look(i), first[i]);
        for (int n : new int[] {-1, 13, MIN, MAX}) due("look(" + n + ")", x.look(n), -100000);
    }
}
